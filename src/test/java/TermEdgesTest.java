/** Part I, sentence by sentence: terms, what makes a ROW GOOD, what is DERIVED. */
public final class TermEdgesTest {
    private static final int NONE = SealedHouse.NONE;
    private static final int MIN = Integer.MIN_VALUE;
    private static final int MAX = Integer.MAX_VALUE;

    private TermEdgesTest() {
    }

    public static void main(String[] args) {
        eachSecretIsAnotherOne();
        sharedIsTheSameBothWays();
        mixHasTenNumbers();
        onlySomeTermsMayBeNothing();
        alikeIsTheSame();
        rowHasSevenKinds();
        goodRow1();
        goodRow2();
        goodRow3Numbers();
        goodRow3Terms();
        goodRow4();
        goodRow5();
        goodRow6();
        goodRow7();
        derivedOfSealedAndRow();
        derivedOfSigned();
        derivedSharedFromEitherSide();
        derivedFromDrawnSecrets();
        derivedNeedsTheKey();
        nothingCountsAsDerived();
        Check.end();
    }

    /** "A SECRET is DRAWN, each another one." */
    private static void eachSecretIsAnotherOne() {
        SealedHouse x = new SealedHouse();
        for (int r = 0; r < 32; r++) {
            Check.due("draw", x.draw(r), 1);
            for (int q = 0; q < r; q++) {
                Check.due("another one", x.same(q, r), 0);
            }
        }
        x.look(0);
        x.take(0, 3, 0);
        Check.due("nor an IDENTITY", x.same(0, 1), 0);
    }

    /** "SHARED(t, s) is the same; s and t may be one" */
    private static void sharedIsTheSameBothWays() {
        SealedHouse x = new SealedHouse();
        x.draw(0);
        x.draw(1);
        x.make(2, 10, 0, -1);
        x.make(3, 10, 1, -1);
        Check.all("SHARED", Check.answers(x.make(4, 11, 0, 3), x.make(5, 11, 1, 2),
                x.make(6, 11, 0, 2), x.make(7, 11, 1, 3)), 1, 1, 1, 1);
        Check.all("the same", Check.answers(x.same(4, 5), x.same(4, 6), x.same(4, 7), x.same(6, 7)),
                1, 0, 0, 0);
        Check.due("of one SECRET", x.about(6, 0), 3);
    }

    /** "MIX n(a, b), n 0 .. 9" */
    private static void mixHasTenNumbers() {
        Twins t = new Twins();
        t.run(x -> {
            x.draw(0);
            x.draw(1);
            x.draw(2);
        });
        t.refused("n -1", x -> x.make(2, -1, 0, 1), NONE);
        t.refused("n 13", x -> x.make(2, 13, 0, 1), NONE);
        t.refused("the least", x -> x.make(2, MIN, 0, 1), NONE);
        t.refused("the most", x -> x.make(2, MAX, 0, 1), NONE);
        t.due("n 0", x -> x.make(2, 0, 0, 1), 1);
        t.due("kind", x -> x.about(2, 0), 4);
        t.due("n", x -> x.about(2, 1), 0);
        t.due("n 9", x -> x.make(3, 9, 0, 1), 1);
        t.due("kind", x -> x.about(3, 0), 4);
        t.due("n", x -> x.about(3, 1), 9);
        t.due("10 is no MIX", x -> x.make(4, 10, 0, 1), 1);
        t.due("kind", x -> x.about(4, 0), 2);
        t.end();
    }

    /** "of the terms in others only those of a ROW and the second one of a MIX may be NOTHING" */
    private static void onlySomeTermsMayBeNothing() {
        Twins t = Twins.published(1);
        t.run(x -> {
            x.draw(0);
            x.make(1, 10, 0, -1);
            x.take(2, 1, 1);
        });
        t.refused("the first one of a MIX", x -> x.make(3, 6, -1, 0), NONE);
        t.refused("SHARED", x -> x.make(3, 11, 0, -1), NONE);
        t.refused("SHARED", x -> x.make(3, 11, -1, 1), NONE);
        t.refused("SIGNED", x -> x.make(3, 12, 0, -1), NONE);
        t.refused("SIGNED", x -> x.make(3, 12, -1, 0), NONE);
        t.refused("PUBLIC", x -> x.make(3, 10, -1, -1), NONE);
        t.refused("a key", x -> x.seal(3, -1, 0, 0), NONE);
        t.refused("a head", x -> x.seal(3, 0, -1, 0), NONE);
        t.refused("a body", x -> x.seal(3, 0, 0, -1), NONE);
        t.due("the second one of a MIX", x -> x.make(3, 6, 0, -1), 1);
        for (int k = 0; k < 4; k++) {
            int at = k;
            t.due("one of a ROW", x -> x.swap(2, 2, at, 0), 1);
            t.due("one of a ROW", x -> x.part(4, 2, at), 1);
            t.due("NOTHING", x -> x.swap(2, 2, at, -1), 1);
            t.refused("NOTHING stands there", x -> x.part(4, 2, at), NONE);
        }
        t.end();
    }

    /** "Two terms are the same if they are made alike of the same ones." */
    private static void alikeIsTheSame() {
        SealedHouse x = new SealedHouse();
        x.publish(0);
        x.draw(0);
        x.draw(1);
        for (int what = 0; what <= 9; what++) {
            x.make(2, what, 0, 1);
            x.make(3, what, 0, 1);
            Check.due("MIX", x.same(2, 3), 1);
            x.make(3, what, 1, 0);
            Check.due("the other way round", x.same(2, 3), 0);
            x.make(3, (what + 1) % 10, 0, 1);
            Check.due("another n", x.same(2, 3), 0);
            x.make(3, what, 0, -1);
            Check.due("with NOTHING", x.same(2, 3), 0);
        }
        x.seal(2, 0, 0, 1);
        x.seal(3, 0, 0, 1);
        Check.due("SEALED", x.same(2, 3), 1);
        int[][] others = {{1, 0, 1}, {0, 1, 1}, {0, 0, 0}};
        for (int[] krs : others) {
            x.seal(3, krs[0], krs[1], krs[2]);
            Check.due("another one", x.same(2, 3), 0);
        }
        x.make(2, 12, 0, 1);
        x.make(3, 12, 0, 1);
        Check.due("SIGNED", x.same(2, 3), 1);
        x.make(3, 12, 1, 1);
        Check.due("by another", x.same(2, 3), 0);
        x.take(2, 1, 1);
        for (int k = 0; k < 4; k++) {
            x.alter(3, 2, k, 17);
            Check.due("a number", x.same(2, 3), 0);
            x.alter(3, 3, k, k == 1 ? 2 : 0);
            Check.due("as before", x.same(2, 3), 1);
            x.swap(3, 2, k, 0);
            Check.due("a term", x.same(2, 3), 0);
        }
    }

    /** "ROW of a KIND 1 .. 7" */
    private static void rowHasSevenKinds() {
        Twins t = Twins.published(1);
        t.run(x -> x.take(0, 1, 1));
        t.run(x -> x.take(1, 1, 2));
        for (int v : new int[] {MIN, -1, 0, 8, MAX}) {
            t.refused("KIND " + v, x -> x.alter(1, 0, 4, v), NONE);
        }
        for (int v = 1; v <= 7; v++) {
            int kind = v;
            t.due("KIND", x -> x.alter(2, 0, 4, kind), 1);
            t.due("KIND", x -> x.about(2, 1), kind);
        }
        t.end();
    }

    // ---- GOOD ROWS

    /** Device 1 tries to begin with device 0, whose place 0 has the row of register 0. */
    private static void beginsWith(Twins t, String what, boolean good) {
        t.run(x -> {
            x.make(Forge.MADE, 12, Forge.IDENTITY, 0);
            x.plant(0, 0, Forge.MADE);
        });
        if (good) {
            t.run(x -> Check.due(what, x.begin(1, 0) > 0 ? 1 : 0, 1));
        } else {
            t.refused(what, x -> x.begin(1, 0), -5);
        }
    }

    /** "1: a device, a number (any); a PUBLIC" and "otherwise 0 and NOTHING" */
    private static void goodRow1() {
        Twins t = Twins.published(1);
        t.run(x -> {
            Forge.identity(x, 0);
            x.draw(1);
            x.make(2, 10, 1, -1);
            Forge.row(x, 3, 1, 0, 0, 0, 0);
            x.swap(3, 3, 0, 2);
        });
        for (int number : new int[] {MIN, -1, 0, 1, MAX}) {
            t.run(x -> x.alter(0, 3, 1, number));
            beginsWith(t, "number " + number, true);
        }
        int[][] bad = {{0, -1}, {0, 1}, {0, 6}, {2, 1}, {2, -1}, {3, 1}, {3, -1}};
        for (int[] number : bad) {
            t.run(x -> x.alter(0, 3, number[0], number[1]));
            beginsWith(t, "number " + number[0] + " is " + number[1], false);
        }
        t.run(x -> x.swap(0, 3, 0, -1));
        beginsWith(t, "no PUBLIC", false);
        t.run(x -> x.swap(0, 3, 0, 1));
        beginsWith(t, "a SECRET", false);
        for (int k = 1; k < 4; k++) {
            int at = k;
            t.run(x -> x.swap(0, 3, at, 2));
            beginsWith(t, "term " + k, false);
        }
        for (int k = 2; k <= 7; k++) {
            int kind = k;
            t.run(x -> x.alter(0, 3, 4, kind));
            beginsWith(t, "KIND " + k, false);
        }
        t.end();
    }

    /** Device 1 begins with device 0, place 1 of which has the row of register 0: with an o? */
    private static void hasOnce(SealedHouse x, String what, boolean good) {
        x.plant(0, 1, 0);
        Check.due(what, x.begin(1, 0) > 0 ? 1 : 0, 1);
        Check.due(what + ": the place is NOTHING", x.take(9, 1, 1), NONE);
        Check.due(what + ": place 2 is not", x.take(9, 1, 2), 1);
        x.look(1);
        // IDENTITY, BASE, ROOT, MINE, THEIRS, SEND, PREKEY, then ONCE, if there is an o
        x.take(8, 3, 7);
        x.part(7, 0, 0);
        int next = x.same(8, 7);
        Check.due(what + ": it is the o", next == 1 ? 1 : 0, good ? 1 : 0);
    }

    /** "2: likewise." */
    private static void goodRow2() {
        int[][] bad = {{0, -1}, {0, 1}, {0, 6}, {2, 1}, {2, -1}, {3, 1}, {3, -1}, {4, 1}, {4, 3}};
        for (int i = 0; i < bad.length + 6; i++) {
            SealedHouse x = new SealedHouse();
            x.publish(0);
            x.draw(1);
            x.make(2, 10, 1, -1);
            Forge.row(x, 0, 2, 0, 0, 0, 0);
            x.swap(0, 0, 0, 2);
            if (i < bad.length) {
                x.alter(0, 0, bad[i][0], bad[i][1]);
                hasOnce(x, "number " + bad[i][0] + " is " + bad[i][1], false);
            } else if (i < bad.length + 3) {
                x.swap(0, 0, i - bad.length + 1, 2);
                hasOnce(x, "one more term", false);
            } else {
                x.alter(0, 0, 1, new int[] {MIN, 0, MAX}[i - bad.length - 3]);
                hasOnce(x, "any number", true);
            }
        }
        SealedHouse x = new SealedHouse();
        x.publish(0);
        x.draw(1);
        Forge.row(x, 0, 2, 0, 0, 0, 0);
        x.swap(0, 0, 0, 1);
        hasOnce(x, "a SECRET", false);
    }

    /** What is in register 0 is the head of what comes to device 0. */
    private static void headIs(Twins t, String what, int want) {
        t.run(x -> x.seal(1, 0, 0, 0));
        t.refused(what, x -> x.inject(0, 1), want);
    }

    private static void makeHead(SealedHouse x) {
        x.draw(2);
        x.make(3, 10, 2, -1);
        Forge.row(x, 4, 3, 1, 0, 0, 0);
        x.swap(4, 4, 0, 3);
        x.swap(4, 4, 1, 3);
    }

    /** "3: from, to (devices, maybe the same), N, BEFORE (0 .. 9,999 both)" */
    private static void goodRow3Numbers() {
        Twins t = Twins.published(1);
        t.run(TermEdgesTest::makeHead);
        int[][] rows = {
            {0, MIN, -10}, {0, -1, -10}, {0, 1, -12}, {0, 5, -12}, {0, 6, -10}, {0, MAX, -10},
            {1, MIN, -10}, {1, -1, -10}, {1, 0, -12}, {1, 5, -11}, {1, 6, -10}, {1, MAX, -10},
            {2, MIN, -10}, {2, -1, -10}, {2, 0, -12}, {2, 9_999, -12}, {2, 10_000, -10},
            {3, MIN, -10}, {3, -1, -10}, {3, 0, -12}, {3, 9_999, -12}, {3, 10_000, -10},
        };
        for (int[] row : rows) {
            t.run(x -> x.alter(0, 4, row[0], row[1]));
            headIs(t, "number " + row[0] + " is " + row[1], row[2]);
        }
        t.run(x -> x.alter(0, 4, 0, 0));
        headIs(t, "from and to are the same", -11);
        for (int k = 1; k <= 7; k++) {
            int kind = k;
            t.run(x -> x.alter(0, 4, 4, kind));
            headIs(t, "KIND " + k, k == 3 ? -12 : -10);
        }
        t.end();
    }

    /** "BASE, KEY (PUBLIC both), PREKEY (PUBLIC or NOTHING), ONCE (likewise, NOTHING where ..)" */
    private static void goodRow3Terms() {
        Twins t = Twins.published(1);
        t.run(TermEdgesTest::makeHead);
        for (int k = 0; k < 2; k++) {
            int at = k;
            t.run(x -> x.swap(0, 4, at, -1));
            headIs(t, "BASE, KEY: NOTHING", -10);
            t.run(x -> x.swap(0, 4, at, 2));
            headIs(t, "BASE, KEY: a SECRET", -10);
        }
        t.run(x -> x.swap(5, 4, 2, 3));
        t.run(x -> x.swap(0, 5, 2, 3));
        headIs(t, "PREKEY alone", -12);
        t.run(x -> x.swap(0, 5, 3, 3));
        headIs(t, "PREKEY and ONCE", -12);
        t.run(x -> x.swap(0, 5, 3, 2));
        headIs(t, "ONCE: a SECRET", -10);
        t.run(x -> x.swap(0, 4, 2, 2));
        headIs(t, "PREKEY: a SECRET", -10);
        t.run(x -> x.swap(0, 4, 3, 3));
        headIs(t, "ONCE where PREKEY is NOTHING", -10);
        t.end();
    }

    /** A session with device 1, as device 0, whose next key is in KEY and next head in HEAD. */
    private static Twins openSession() {
        Twins t = Twins.published(2);
        t.run(x -> Forge.begin(x, 0, 1, 0));
        t.run(x -> Forge.firstLetter(x, 0, 1, false));
        t.due("a session", x -> x.inject(1, Forge.MADE), 1);
        t.run(x -> nextIs(x, 1));
        return t;
    }

    private static void nextIs(SealedHouse x, int index) {
        Forge.key(x, index);
        Forge.head(x, 0, 1, index, 0);
    }

    private static void bodyIs(Twins t, String what, int want) {
        t.run(x -> x.seal(Forge.MADE, Forge.KEY, Forge.HEAD, 0));
        if (want < 0) {
            t.refused(what, x -> x.inject(1, Forge.MADE), want);
        } else {
            t.due(what, x -> x.inject(1, Forge.MADE), want);
        }
    }

    /** "4: no number; a term" */
    private static void goodRow4() {
        Twins t = openSession();
        t.run(x -> {
            x.draw(1);
            Forge.row(x, 2, 4, 0, 0, 0, 0);
            x.swap(0, 2, 0, -1);
        });
        bodyIs(t, "no term", -15);
        t.run(x -> x.swap(2, 2, 0, 1));
        for (int k = 0; k < 4; k++) {
            int at = k;
            t.run(x -> x.alter(0, 2, at, 1));
            bodyIs(t, "number " + k, -15);
            t.run(x -> x.alter(0, 2, at, -1));
            bodyIs(t, "number " + k, -15);
            if (k > 0) {
                t.run(x -> x.swap(0, 2, at, 1));
                bodyIs(t, "term " + k, -15);
            }
        }
        for (int k = 1; k <= 7; k++) {
            int kind = k;
            t.run(x -> x.alter(0, 2, 4, kind));
            if (k != 4) {
                bodyIs(t, "KIND " + k, -15);
            }
        }
        t.run(x -> x.make(0, 6, 1, -1));
        bodyIs(t, "no ROW at all", -15);
        t.run(x -> x.alter(0, 2, 0, 0));
        bodyIs(t, "a letter", 1);
        t.run(x -> nextIs(x, 2));
        t.run(x -> x.swap(0, 2, 0, Forge.HEAD));
        bodyIs(t, "any term will do", 1);
        t.due("no letter's SECRET", x -> x.taken(1, 0), NONE);
        t.end();
    }

    /** "5: a group, a generation (1 and more), an index (0 .. 9,999); a term, a PUBLIC" */
    private static void goodRow5() {
        Twins t = openSession();
        t.run(x -> {
            x.draw(1);
            x.make(3, 10, 1, -1);
            Forge.row(x, 2, 5, 0, 1, 0, 0);
            x.swap(2, 2, 0, 1);
            x.swap(2, 2, 1, 3);
        });
        int[][] bad = {
            {0, -1}, {0, 4}, {0, MIN}, {0, MAX}, {1, 0}, {1, -1}, {1, MIN}, {2, -1}, {2, 10_000},
            {2, MIN}, {2, MAX}, {3, 1}, {3, -1},
        };
        for (int[] number : bad) {
            t.run(x -> x.alter(0, 2, number[0], number[1]));
            bodyIs(t, "number " + number[0] + " is " + number[1], -15);
        }
        int[][] terms = {{0, -1}, {1, -1}, {1, 1}, {2, 3}, {3, 3}};
        for (int[] term : terms) {
            t.run(x -> x.swap(0, 2, term[0], term[1]));
            bodyIs(t, "term " + term[0], -15);
        }
        int[][] good = {{0, 1, 0}, {0, MAX, 0}, {3, 1, 0}, {1, 1, 9_999}};
        for (int i = 0; i < good.length; i++) {
            int at = i;
            t.run(x -> nextIs(x, 1 + at));
            t.run(x -> {
                x.alter(0, 2, 0, good[at][0]);
                x.alter(0, 0, 1, good[at][1]);
                x.alter(0, 0, 2, good[at][2]);
            });
            bodyIs(t, "good " + i, 2);
            t.due("generation", x -> x.group(1, good[at][0], 20), good[at][1]);
            t.due("NEXT", x -> x.group(1, good[at][0], 30), good[at][2]);
        }
        t.end();
    }

    private static void listIs(Twins t, String what, int want) {
        t.run(x -> x.make(Forge.MADE, 12, Forge.IDENTITY, 0));
        if (want < 0) {
            t.refused(what, x -> x.inject(1, Forge.MADE), want);
        } else {
            t.due(what, x -> x.inject(1, Forge.MADE), want);
        }
    }

    /** "6: a group, a version (1 and more), a mask (0 .. 63)" */
    private static void goodRow6() {
        Twins t = Twins.published(2);
        t.run(x -> Forge.identity(x, 3));
        t.run(x -> Forge.row(x, 2, 6, 3, 1, 63, 0));
        t.run(x -> x.draw(3));
        int[][] rows = {
            {0, -1, -10}, {0, 4, -10}, {0, 0, -16}, {1, 0, -10}, {1, -1, -10}, {1, MIN, -10},
            {2, -1, -10}, {2, 64, -10}, {2, MAX, -10}, {2, MIN, -10}, {2, 0, -16}, {3, 1, -10},
            {3, -1, -10},
        };
        for (int[] row : rows) {
            t.run(x -> x.alter(0, 2, row[0], row[1]));
            listIs(t, "number " + row[0] + " is " + row[1], row[2]);
        }
        for (int k = 0; k < 4; k++) {
            int at = k;
            t.run(x -> x.swap(0, 2, at, 3));
            listIs(t, "term " + k, -10);
        }
        for (int k = 1; k <= 7; k++) {
            int kind = k;
            t.run(x -> x.alter(0, 2, 4, kind));
            if (k != 6) {
                listIs(t, "KIND " + k, -10);
            }
        }
        t.run(x -> x.alter(0, 2, 1, 1));
        listIs(t, "group 3, version 1, mask 63", 3);
        t.run(x -> x.alter(0, 2, 1, MAX));
        listIs(t, "the last version", 3);
        t.due("VERSION", x -> x.group(1, 3, 0), MAX);
        t.due("MASK", x -> x.group(1, 3, 1), 63);
        t.end();
    }

    /** "7: a group, a device, a generation (1 and more), an index (0 .. 9,999)" */
    private static void goodRow7() {
        Twins t = Twins.published(2);
        t.run(x -> Forge.row(x, 2, 7, 0, 1, 1, 0));
        t.run(x -> x.draw(3));
        int[][] rows = {
            {0, -1, -10}, {0, 0, -17}, {0, 3, -17}, {0, 4, -10}, {1, -1, -10}, {1, 0, -11},
            {1, 5, -17}, {1, 6, -10}, {2, MIN, -10}, {2, 0, -10}, {2, 1, -17}, {2, MAX, -17},
            {3, -1, -10}, {3, 0, -17}, {3, 9_999, -17}, {3, 10_000, -10},
        };
        for (int[] row : rows) {
            t.run(x -> x.alter(0, 2, row[0], row[1]));
            postIs(t, "number " + row[0] + " is " + row[1], row[2]);
        }
        for (int k = 0; k < 4; k++) {
            int at = k;
            t.run(x -> x.swap(0, 2, at, 3));
            postIs(t, "term " + k, -10);
        }
        for (int k = 1; k <= 7; k++) {
            int kind = k;
            t.run(x -> x.alter(0, 2, 4, kind));
            postIs(t, "KIND " + k, k == 7 ? -17 : -10);
        }
        t.end();
    }

    private static void postIs(Twins t, String what, int want) {
        t.run(x -> {
            x.seal(1, 3, 0, 3);
            x.make(1, 12, 3, 1);
        });
        t.refused(what, x -> x.inject(0, 1), want);
    }

    // ---- DERIVED

    private static SealedHouse published(int devices) {
        SealedHouse x = new SealedHouse();
        for (int d = 0; d < devices; d++) {
            x.publish(d);
        }
        return x;
    }

    /** "of a ROW that is in it its terms; of a SEALED its head, and if its key is in it its body" */
    private static void derivedOfSealedAndRow() {
        SealedHouse x = published(2);
        x.send(0, 1);
        Check.due("not yet", x.derived(0), 0);
        x.look(0);
        Check.due("the key of the one before is not there", x.derived(0), 0);
        x.send(0, 1);
        x.send(0, 1);
        Check.all("SEND is", Check.answers(x.derived(1), x.derived(2)), 1, 1);
    }

    /** "of a SIGNED its m" */
    private static void derivedOfSigned() {
        SealedHouse x = published(2);
        x.list(0, 3);
        x.post(0, 0);
        Check.due("not yet", x.derived(0), 0);
        x.deliver(1, 1);
        x.look(1);
        Check.due("by the CHAIN that was given", x.derived(0), 1);
    }

    /** "SHARED(s, t), if s and PUBLIC(t) are in it, or t and PUBLIC(s)" */
    private static void derivedSharedFromEitherSide() {
        SealedHouse x = published(2);
        x.send(0, 1);
        Check.due("from neither", x.derived(0), 0);
        x.look(1);
        Check.due("the PREKEY of 1, and PUBLIC of the others", x.derived(0), 1);
        SealedHouse y = published(2);
        y.send(0, 1);
        y.deliver(1, 0);
        y.send(1, 0);
        Check.due("from neither", y.derived(1), 0);
        y.look(0);
        Check.due("MINE of 0, and PUBLIC of the one that 1 drew", y.derived(1), 1);
        for (int s = 0; s < 6; s++) {
            for (int d = 0; d < 6; d++) {
                if (s != d) {
                    SealedHouse z = published(6);
                    z.send(s, d);
                    z.look(d);
                    Check.due("from " + s + " to " + d, z.derived(0), 1);
                }
            }
        }
    }

    /** "SECRETS drawn by the attacker" */
    private static void derivedFromDrawnSecrets() {
        SealedHouse x = published(2);
        Forge.identity(x, 1);
        x.draw(0);
        x.make(1, 10, 0, -1);
        Forge.row(x, 2, 1, 1, 1, 0, 0);
        x.swap(2, 2, 0, 1);
        x.make(3, 12, Forge.IDENTITY, 2);
        x.plant(1, 0, 3);
        for (int i = 1; i < 5; i++) {
            x.plant(1, i, -1);
        }
        x.send(0, 1);
        Check.due("p is the attacker's", x.derived(0), 1);
        SealedHouse y = published(2);
        y.draw(0);
        y.make(1, 10, 0, -1);
        Forge.row(y, 2, 2, 1, 1, 0, 0);
        y.swap(2, 2, 0, 1);
        y.plant(1, 1, 2);
        y.send(0, 1);
        Check.due("o alone is not enough", y.derived(0), 0);
    }

    /** One step of a chain is not the step before it. */
    private static void derivedNeedsTheKey() {
        SealedHouse x = published(2);
        for (int w = 0; w < 4; w++) {
            x.send(0, 1);
        }
        x.deliver(1, 2);
        x.look(1);
        Check.all("two LEFT keys, none of what was taken, the chain", Check.answers(x.derived(0),
                x.derived(1), x.derived(2), x.derived(3)), 1, 1, 0, 1);
    }

    /** "ROW (NOTHING counts as in it)", and so it does in a MIX */
    private static void nothingCountsAsDerived() {
        SealedHouse x = published(2);
        for (int i = 1; i < 5; i++) {
            x.plant(1, i, -1);
        }
        x.send(0, 1);
        x.deliver(1, 0);
        Check.due("not yet", x.derived(0), 0);
        x.look(1);
        Check.due("MIX 3(b, NOTHING), MIX 6(SEND, NOTHING)", x.derived(0), 1);
    }
}
