/**
 * The document in its own order: each promise by an ordinary run, the edges that it names, and wrong
 * inputs. What is told of Parts I to V at length has tests of its own (TermEdgesTest and others).
 */
public final class PromisesTest {
    private static final int NONE = SealedHouse.NONE;
    private static final int FULL = SealedHouse.FULL;
    private static final int DOWN = SealedHouse.DOWN;
    private static final int CRASHED = SealedHouse.CRASHED;
    private static final int LEAST = Integer.MIN_VALUE;
    private static final int MOST = Integer.MAX_VALUE;

    private PromisesTest() {
    }

    public static void main(String[] args) {
        devices();
        attacker();
        told();
        callsOfOneObject();
        Check.end();
    }

    private static void devices() {
        promise1();
        promise2();
        promise3();
        promise4();
        promise5();
        promise6();
        promise7();
        promise8();
        promise9();
        promise10();
    }

    private static void attacker() {
        promise11();
        promise12();
        promise13();
        promise14();
        promise15();
        promise16();
        promise17();
        promise18();
        promise19();
        promise20();
        promise21();
        promise22();
        promise23();
    }

    private static void told() {
        promise24();
        promise25();
        promise26();
        promise27();
        promise28();
        promise29();
        promise30();
        promise31();
        promise32();
    }

    private static void due(String call, int got, int want) {
        Check.due(call, got, want);
    }

    private static void none(String calls, int... got) {
        for (int i = 0; i < got.length; i++) {
            due(calls + ", wrong input " + i, got[i], NONE);
        }
    }

    private static SealedHouse published(int... devices) {
        SealedHouse x = new SealedHouse();
        for (int d : devices) {
            due("publish(" + d + ")", x.publish(d), 1);
        }
        return x;
    }

    private static void numbers(SealedHouse x, String what, int r, int... want) {
        for (int i = 0; i < want.length; i++) {
            due(what + ", about " + i, x.about(r, i), want[i]);
        }
    }

    // ---- devices

    /** "Six IDENTITIES are drawn. No wires; registers are empty; the DIRECTORY has NOTHING." */
    private static void promise1() {
        SealedHouse x = new SealedHouse();
        Check.all("1: counts", Check.answers(x.count(0), x.count(1), x.count(2)), 0, 0, 6);
        for (int r = 0; r < 32; r++) {
            due("1: register " + r, x.about(r, 0), NONE);
        }
        for (int i = 0; i < 30; i++) {
            due("1: place " + i, x.take(31, 1, i), NONE);
        }
        due("1: no look yet", x.take(31, 3, 0), NONE);
        for (int d = 0; d < 6; d++) {
            due("1: the IDENTITY lies in half 0", x.look(d), 1);
            due("1: it is taken", x.take(d, 3, 0), 1);
            due("1: a SECRET", x.about(d, 0), 1);
            due("1: PUBLIC of it", x.make(6, 10, d, -1) + x.take(7, 2, d), 2);
            due("1: all know that one", x.same(6, 7), 1);
            for (int p = 0; p < d; p++) {
                due("1: each another one", x.same(d, p), 0);
            }
            for (int what = 0; what < 8; what++) {
                due("1: device " + what, x.device(d, what), what == 4 || what == 5 ? 1 : 0);
            }
        }
        due("1: another object knows nothing of this one", new SealedHouse().take(0, 3, 0), NONE);
    }

    /** "A device publishes: the number of its PREKEY. CRASHED (here and below)." */
    private static void promise2() {
        SealedHouse x = published(3);
        due("2: DRAWS", x.count(2), 11);
        due("2: place 0", x.take(0, 1, 15), 1);
        due("2: it is SIGNED", x.about(0, 0), 6);
        due("2: by its IDENTITY", x.look(3) == 6 && x.take(1, 3, 0) == 1 ? 1 : 0, 1);
        due("2: its m", x.part(2, 0, 5), 1);
        due("2: signed again", x.make(3, 12, 1, 2) + x.same(3, 0), 2);
        numbers(x, "2: ROW 1", 2, 7, 1, 3, 1, 0, 0);
        for (int place = 1; place < 5; place++) {
            due("2: place " + place, x.take(4, 1, 15 + place), 1);
            numbers(x, "2: ROW 2", 4, 7, 2, 3, 1 + place, 0, 0);
            due("2: its PUBLIC", x.part(5, 4, 0) + x.about(5, 0), 3);
            due("2: of the key that lies there", x.take(6, 3, 1 + place), 1);
            due("2: PUBLIC of that", x.make(6, 10, 6, -1) + x.same(6, 5), 2);
        }
        due("2: another PREKEY", x.publish(3), 6);
        due("2: one more DRAW", x.count(2), 12);
        due("2: and another one", x.publish(3), 7);
        Check.all("2: PREKEYS and ONE-TIME keys",
                Check.answers(x.device(3, 0), x.device(3, 1), x.device(3, 2)), 7, 6, 4);
        none("2: publish", x.publish(-1), x.publish(6), x.publish(LEAST), x.publish(MOST));
        due("2: a cut", x.crash(3, 0), 1);
        due("2: cut off", x.publish(3), CRASHED);
        due("2: the DIRECTORY is as it was", x.take(7, 1, 15) + x.part(7, 7, 5), 2);
        due("2: with number 7", x.about(7, 3), 7);
        due("2: down", x.publish(3), DOWN);
    }

    /** "s begins a session with d: how many it has with d. -5: it can't begin." */
    private static void promise3() {
        SealedHouse x = published(1);
        due("3: begin", x.begin(0, 1), 1);
        due("3: DRAWS e and r", x.count(2), 13);
        int[] fresh = {0, 0, 0, 0, 1, 1, 0};
        for (int what = 0; what < 7; what++) {
            due("3: session " + what, x.session(0, 1, 0, what), fresh[what]);
        }
        due("3: the other side has none", x.session(1, 0, 0, 0), NONE);
        Check.all("3: at most two", Check.answers(x.begin(0, 1), x.begin(0, 1)), 2, 2);
        Check.all("3: places 1 to 3 are NOTHING now", Check.answers(x.take(0, 1, 6),
                x.take(0, 1, 7), x.take(0, 1, 8), x.take(0, 1, 9)), NONE, NONE, NONE, 1);
        Check.all("3: ENTRIES and terms, with o", Check.answers(x.device(0, 4), x.device(0, 5)),
                13, 15);
        Check.all("3: the last place, and then none", Check.answers(x.begin(0, 1), x.begin(0, 1)),
                2, 2);
        Check.all("3: without o the first BEARS one term",
                Check.answers(x.device(0, 4), x.device(0, 5)), 13, 14);
        due("3: the other one has not published", x.begin(1, 0), -5);
        none("3: begin", x.begin(0, 0), x.begin(0, 6), x.begin(-1, 1), x.begin(6, 1),
                x.begin(0, LEAST));
        due("3: DRAWS", x.count(2), 21);
        due("3: a cut", x.crash(0, 0) + x.begin(0, 1), 1 + CRASHED);
        due("3: down", x.begin(0, 1), DOWN);
    }

    /** "s sends d a letter, in the first session with d, or one that it begins: the wire." */
    private static void promise4() {
        SealedHouse x = published(1);
        due("4: begins and sends", x.send(0, 1), 0);
        due("4: DRAWS e, r, and the letter's", x.count(2), 14);
        due("4: sends in the same session", x.send(0, 1), 1);
        due("4: DRAWS the letter's", x.count(2), 15);
        Check.all("4: one session, N is 2",
                Check.answers(x.session(0, 1, 0, 0), x.session(0, 1, 1, 0)), 2, NONE);
        due("4: the wire", x.take(0, 0, 1) + x.part(1, 0, 4), 2);
        numbers(x, "4: its head", 1, 7, 3, 0, 1, 1, 0);
        Check.all("4: BASE, KEY, PREKEY, ONCE", Check.answers(x.part(2, 1, 0), x.part(3, 1, 1),
                x.part(4, 1, 2), x.part(5, 1, 3)), 1, 1, 1, 1);
        due("4: taken", x.deliver(1, 1), 1);
        due("4: answered", x.send(1, 0), 2);
        due("4: DRAWS MINE and the letter's", x.count(2), 17);
        due("4: the answer BEARS nothing", x.take(0, 0, 2) + x.part(1, 0, 4), 2);
        none("4: PREKEY, ONCE", x.part(4, 1, 2), x.part(5, 1, 3));
        due("4: it can't begin", x.send(0, 2), -5);
        none("4: send", x.send(0, 0), x.send(0, 6), x.send(6, 0), x.send(-1, 0), x.send(0, -1));
        due("4: a cut", x.crash(0, 0) + x.send(0, 1), 1 + CRASHED);
        Check.all("4: no wire and no letter, but a DRAW",
                Check.answers(x.count(0), x.count(1), x.count(2)), 3, 3, 18);
        due("4: down", x.send(0, 1), DOWN);
    }

    /** "The owner of a group makes a list with this mask (0 .. 63) .. the wire." */
    private static void promise5() {
        SealedHouse x = new SealedHouse();
        due("5: all", x.list(3, 63), 0);
        Check.all("5: VERSION, MASK, GONE, STALE", Check.answers(x.group(3, 3, 0),
                x.group(3, 3, 1), x.group(3, 3, 2), x.group(3, 3, 6)), 1, 63, 0, 0);
        due("5: SIGNED", x.take(0, 0, 0) + x.about(0, 0) + x.part(1, 0, 5), 8);
        numbers(x, "5: ROW 6", 1, 7, 6, 3, 1, 63, 0);
        due("5: it bears no letter", x.letter(0), NONE);
        due("5: the owner alone", x.list(3, 8), 1);
        Check.all("5: VERSION, MASK, GONE, STALE", Check.answers(x.group(3, 3, 0),
                x.group(3, 3, 1), x.group(3, 3, 2), x.group(3, 3, 6)), 2, 8, 55, 1);
        Check.all("5: one that is GONE; without the owner",
                Check.answers(x.list(3, 9), x.list(3, 0), x.list(0, 62)), -6, -6, -6);
        none("5: list", x.list(3, 64), x.list(3, -1), x.list(4, 16), x.list(-1, 1),
                x.list(3, LEAST), x.list(MOST, 63));
        due("5: no DRAWS", x.count(2), 6);
        due("5: a cut", x.crash(3, 0) + x.list(3, 8), 1 + CRASHED);
        Check.all("5: no wire, no VERSION", Check.answers(x.count(0), x.group(3, 3, 0)), 2, 2);
        due("5: down", x.list(3, 8), DOWN);
    }

    /** "s posts a letter to a group: the wire (the last one of this call; GIFTS go ahead of it)." */
    private static void promise6() {
        SealedHouse x = published(0, 2);
        due("6: VERSION is 0", x.post(0, 0), -6);
        due("6: list", x.list(0, 7), 0);
        due("6: device 1 can't be given the key", x.post(0, 0), 2);
        Check.all("6: GENERATION, INDEX, GAVE", Check.answers(x.group(0, 0, 3), x.group(0, 0, 4),
                x.group(0, 0, 5)), 1, 1, 4);
        due("6: DRAWS CHAIN, SIGNER, e, r, and the letter's", x.count(2), 21);
        due("6: once more", x.post(0, 0), 3);
        due("6: DRAWS the letter's", x.count(2), 22);
        due("6: publish", x.publish(1), 1);
        due("6: now it is given", x.post(0, 0), 5);
        Check.all("6: GENERATION, INDEX, GAVE", Check.answers(x.group(0, 0, 3), x.group(0, 0, 4),
                x.group(0, 0, 5)), 1, 3, 6);
        Check.all("6: letters", Check.answers(x.letter(1), x.letter(2), x.letter(3), x.letter(4),
                x.letter(5)), NONE, 0, 1, NONE, 2);
        due("6: the post", x.take(0, 0, 5) + x.about(0, 0) + x.part(0, 0, 5), 8);
        due("6: its head", x.about(0, 0) + x.part(0, 0, 4), 6);
        numbers(x, "6: ROW 7", 0, 7, 7, 0, 0, 1, 2);
        due("6: without device 2", x.list(0, 3), 6);
        due("6: another key, and its GIFT", x.post(0, 0), 8);
        Check.all("6: GENERATION, INDEX, GAVE, STALE", Check.answers(x.group(0, 0, 3),
                x.group(0, 0, 4), x.group(0, 0, 5), x.group(0, 0, 6)), 2, 1, 2, 0);
        none("6: post", x.post(6, 0), x.post(-1, 0), x.post(0, 4), x.post(0, -1), x.post(0, MOST));
        due("6: a cut", x.crash(0, 0) + x.post(0, 0), 1 + CRASHED);
        Check.all("6: no wire, INDEX is as it was",
                Check.answers(x.count(0), x.group(0, 0, 4)), 9, 1);
        due("6: down", x.post(0, 0), DOWN);
    }

    /** "Wire w comes to d: 1 a LETTER was taken, 2 a GIFT, 3 a list; .. -11 to -17 as told." */
    private static void promise7() {
        SealedHouse x = published(0, 1, 2);
        for (int w = 0; w < 8; w++) {
            due("7: send", x.send(0, 1), w);
        }
        Check.all("7: to another one; from itself",
                Check.answers(x.deliver(2, 0), x.deliver(0, 0)), -11, -11);
        Check.all("7: six ahead, five ahead, again, left behind, again", Check.answers(
                x.deliver(1, 6), x.deliver(1, 5), x.deliver(1, 5), x.deliver(1, 4),
                x.deliver(1, 4)), -13, 1, -13, 1, -13);
        due("7: LEFT keys", x.session(1, 0, 0, 3), 4);
        due("7: begins another one", x.send(2, 1), 8);
        Check.all("7: PREKEYS go", Check.answers(x.publish(1), x.publish(1)), 6, 8);
        due("7: no session, no PREKEY", x.deliver(1, 8), -12);
        due("7: this session is there still", x.deliver(1, 7), 1);
        due("7: list", x.list(0, 7), 9);
        Check.all("7: the owner, taken, again", Check.answers(x.deliver(0, 9), x.deliver(1, 9),
                x.deliver(1, 9)), -16, 3, -16);
        due("7: post", x.post(0, 0), 12);
        Check.all("7: no key, a GIFT, again, a LETTER, again", Check.answers(x.deliver(1, 12),
                x.deliver(1, 10), x.deliver(1, 10), x.deliver(1, 12), x.deliver(1, 12)),
                -17, 2, -13, 1, -13);
        Check.all("7: from itself, no list", Check.answers(x.deliver(0, 12), x.deliver(2, 12)),
                -11, -17);
        none("7: deliver", x.deliver(6, 0), x.deliver(-1, 0), x.deliver(0, 13), x.deliver(0, -1),
                x.deliver(0, MOST));
        due("7: a cut", x.crash(2, 0) + x.deliver(2, 9), 1 + CRASHED);
        Check.all("7: down, wherever it is for; up; taken", Check.answers(x.deliver(2, 0),
                x.up(2), x.deliver(2, 9)), DOWN, 1, 3);
    }

    /** "What is in register r comes to d, likewise. NONE: it is empty, too." */
    private static void promise8() {
        SealedHouse x = published(1);
        due("8: send", x.send(0, 1), 0);
        due("8: SEND is the sixth term", x.look(0) == 8 && x.take(0, 3, 5) == 1 ? 1 : 0, 1);
        due("8: the next key", x.make(1, 6, 0, -1), 1);
        due("8: the next head", x.take(2, 0, 0) + x.part(3, 2, 4) + x.alter(3, 3, 2, 1), 3);
        due("8: ROW 4 has no numbers", x.alter(4, 3, 4, 4) + x.alter(4, 4, 1, 0)
                + x.alter(4, 4, 2, 0), 3);
        due("8: and one term", x.swap(4, 4, 1, -1) + x.swap(4, 4, 2, -1) + x.swap(4, 4, 3, -1), 3);
        due("8: a PUBLIC and a head are of no form", x.take(5, 2, 0) + x.inject(1, 5), -9);
        due("8: a ROW by itself, neither", x.inject(1, 3), -10);
        due("8: for another one", x.inject(2, 2), -11);
        due("8: another key", x.seal(5, 0, 3, 4) + x.inject(1, 5), -13);
        due("8: another body", x.seal(5, 1, 3, 3) + x.inject(1, 5), -14);
        due("8: nothing of that was taken", x.taken(1, 3), 0);
        due("8: as device 0 would send it", x.seal(5, 1, 3, 4) + x.inject(1, 5), 2);
        Check.all("8: no letter's SECRET, from 0, by no group, one", Check.answers(x.taken(1, 0),
                x.taken(1, 1), x.taken(1, 2), x.taken(1, 3)), NONE, 0, NONE, 1);
        due("8: what device 0 sent was left behind", x.inject(1, 2), 1);
        due("8: again", x.inject(1, 2), -13);
        none("8: inject", x.inject(1, 6), x.inject(1, 32), x.inject(1, -1), x.inject(6, 2),
                x.inject(-1, 2));
        due("8: list", x.list(0, 3), 1);
        due("8: a list", x.take(6, 0, 1) + x.inject(1, 6), 4);
        due("8: a cut", x.list(0, 3) + x.take(6, 0, 2) + x.crash(1, 0), 4);
        Check.all("8: cut off, down, empty ahead of down", Check.answers(x.inject(1, 6),
                x.inject(1, 6), x.inject(1, 7)), CRASHED, DOWN, NONE);
    }

    /** "The next COMMIT of d is cut behind k WRITES (0 .. 200): 1. DOWN: it is." */
    private static void promise9() {
        SealedHouse x = published(1);
        due("9: its ENTRIES are one block, in half 1", x.device(1, 4) * 10 + x.device(1, 6), 61);
        int[] lying = {6, 13, 13};
        for (int k = 0; k < 3; k++) {
            due("9: crash", x.crash(1, k), 1);
            due("9: a COMMIT of three WRITES", x.publish(1), CRASHED);
            Check.all("9: terms that lie there, half, DOWN", Check.answers(x.device(1, 5),
                    x.device(1, 6), x.device(1, 7)), lying[k], k < 2 ? 1 : 0, 1);
            due("9: it is DOWN", x.crash(1, 3), DOWN);
            due("9: up", x.up(1), 1);
            due("9: a PREKEY of before came with the HEAD", x.device(1, 4), k < 2 ? 6 : 7);
        }
        due("9: as many WRITES as it has", x.crash(1, 3) + x.send(1, 0), 1 - 5);
        due("9: not cut", x.publish(1), 7);
        due("9: nor any more", x.publish(1), 8);
        Check.all("9: of several the latest", Check.answers(x.crash(1, 0), x.crash(1, 200),
                x.publish(1), x.publish(1)), 1, 1, 9, 10);
        Check.all("9: it waits through refused calls and up()", Check.answers(x.crash(1, 0),
                x.send(1, 0), x.up(1), x.publish(1)), 1, -5, 0, CRASHED);
        none("9: crash", x.crash(1, -1), x.crash(1, 201), x.crash(6, 0), x.crash(-1, 0),
                x.crash(0, LEAST), x.crash(0, MOST));
        due("9: another one's is not cut", x.publish(0), 1);
    }

    /** "d comes up again: 1; 0 if it was not DOWN." */
    private static void promise10() {
        SealedHouse x = published(2);
        due("10: not DOWN", x.up(2), 0);
        due("10: the HEAD is written, nothing emptied", x.crash(2, 2) + x.publish(2), 1 + CRASHED);
        Check.all("10: PREKEYS, half, terms", Check.answers(x.device(2, 0), x.device(2, 1),
                x.device(2, 6), x.device(2, 5)), 6, 1, 0, 13);
        Check.all("10: up, again", Check.answers(x.up(2), x.up(2)), 1, 0);
        Check.all("10: terms, DOWN", Check.answers(x.device(2, 5), x.device(2, 7)), 7, 0);
        none("10: up", x.up(-1), x.up(6), x.up(LEAST), x.up(MOST));
        due("10: the DIRECTORY has the PREKEY of before", x.take(0, 1, 10) + x.part(0, 0, 5), 2);
        due("10: number 1", x.about(0, 3), 1);
        due("10: it acts again", x.publish(2), 7);
    }

    // ---- the attacker

    /** "Register r gets a SECRET drawn now: 1." */
    private static void promise11() {
        SealedHouse x = new SealedHouse();
        Check.all("11: draw", Check.answers(x.draw(0), x.draw(31), x.count(2)), 1, 1, 8);
        Check.all("11: SECRETS, each another one",
                Check.answers(x.about(0, 0), x.about(31, 0), x.same(0, 31)), 1, 1, 0);
        none("11: draw", x.draw(-1), x.draw(32), x.draw(LEAST), x.draw(MOST));
        due("11: nothing was drawn", x.count(2), 8);
        SealedHouse full = new SealedHouse();
        for (int i = 6; i <= 2960; i++) {
            full.draw(0);
        }
        Check.all("11: 39 DRAWS are left", Check.answers(full.count(2), full.draw(0),
                full.draw(32), full.publish(0), full.list(0, 1)), 2961, FULL, NONE, FULL, FULL);
    }

    /** "0: the term of wire i, 1: place i % 5 of device i / 5, 2: PUBLIC .., 3: term i of .." */
    private static void promise12() {
        SealedHouse x = published(5);
        due("12: list", x.list(0, 1), 0);
        Check.all("12: a wire", Check.answers(x.take(0, 0, 0), x.about(0, 0)), 1, 6);
        Check.all("12: the last place", Check.answers(x.take(1, 1, 29), x.about(1, 1),
                x.about(1, 3)), 1, 2, 5);
        Check.all("12: place 0 of the last device", Check.answers(x.take(2, 1, 25), x.about(2, 0)),
                1, 6);
        Check.all("12: PUBLIC", Check.answers(x.take(3, 2, 5), x.about(3, 0)), 1, 2);
        none("12: no look yet", x.take(4, 3, 0));
        due("12: look", x.look(5), 6);
        Check.all("12: the last term of it", Check.answers(x.take(4, 3, 5), x.make(5, 10, 4, -1),
                x.part(6, 1, 0), x.same(5, 6)), 1, 1, 1, 1);
        due("12: another look", x.look(0), 1);
        none("12: the latest one has one term", x.take(4, 3, 1), x.take(4, 3, -1));
        none("12: take", x.take(0, 0, 1), x.take(0, 0, -1), x.take(0, 1, 30), x.take(0, 1, -1),
                x.take(0, 1, 0), x.take(0, 2, 6), x.take(0, 2, -1), x.take(0, 4, 0),
                x.take(0, -1, 0), x.take(32, 0, 0), x.take(-1, 0, 0), x.take(0, 1, LEAST));
        due("12: what was refused is as it was", x.about(0, 0), 6);
    }

    /** "what 0 .. 3: that term of a ROW, 4: the head of a SEALED, 5: the m of a SIGNED: 1." */
    private static void promise13() {
        SealedHouse x = published(1);
        due("13: send", x.send(0, 1), 0);
        Check.all("13: a SEALED's head", Check.answers(x.take(0, 0, 0), x.part(1, 0, 4),
                x.about(1, 0)), 1, 1, 7);
        for (int i = 0; i < 4; i++) {
            due("13: a ROW's term", x.part(2 + i, 1, i) + x.about(2 + i, 0), 3);
            for (int j = 0; j < i; j++) {
                due("13: another one", x.same(2 + i, 2 + j), 0);
            }
        }
        Check.all("13: a SIGNED's m", Check.answers(x.take(6, 1, 5), x.part(7, 6, 5),
                x.part(8, 7, 0), x.same(8, 4)), 1, 1, 1, 1);
        none("13: NOTHING stands there", x.part(9, 7, 1), x.part(9, 7, 2), x.part(9, 7, 3));
        none("13: none such", x.part(9, 0, 0), x.part(9, 0, 5), x.part(9, 1, 4), x.part(9, 1, 5),
                x.part(9, 6, 4), x.part(9, 6, 0), x.part(9, 8, 0), x.part(9, 1, 6),
                x.part(9, 1, -1), x.part(9, 10, 0), x.part(9, 32, 0), x.part(9, -1, 0),
                x.part(32, 1, 0), x.part(-1, 1, 0));
        due("13: it is empty still", x.about(9, 0), NONE);
    }

    /** "Register r gets the body of the SEALED in register x, if its key is in register k." */
    private static void promise14() {
        SealedHouse x = new SealedHouse();
        Check.all("14: made", Check.answers(x.draw(0), x.draw(1), x.draw(2), x.seal(3, 0, 1, 2)),
                1, 1, 1, 1);
        Check.all("14: another key", Check.answers(x.unseal(4, 3, 1), x.about(4, 0)), 0, NONE);
        Check.all("14: its key", Check.answers(x.unseal(4, 3, 0), x.same(4, 2)), 1, 1);
        none("14: unseal", x.unseal(4, 0, 0), x.unseal(4, 5, 0), x.unseal(4, 3, 5),
                x.unseal(32, 3, 0), x.unseal(-1, 3, 1), x.unseal(4, 32, 0), x.unseal(4, 3, 32),
                x.unseal(4, -1, 0), x.unseal(4, 3, -1));
        Check.all("14: into its own register", Check.answers(x.unseal(3, 3, 0), x.same(3, 2)), 1,
                1);
    }

    /** "0 .. 9: MIX what(x, y), 10: PUBLIC(x), 11: SHARED(x, t), .. 12: SIGNED(x, y): 1." */
    private static void promise15() {
        SealedHouse x = new SealedHouse();
        Check.all("15: drawn", Check.answers(x.draw(0), x.draw(1)), 1, 1);
        for (int n = 0; n < 10; n++) {
            Check.all("15: MIX " + n, Check.answers(x.make(2, n, 0, 1), x.about(2, 0),
                    x.about(2, 1), x.make(3, n, 1, 0), x.same(2, 3), x.make(3, n, 0, -1),
                    x.same(2, 3), x.make(3, n, 0, 1), x.same(2, 3)), 1, 4, n, 1, 0, 1, 0, 1, 1);
        }
        Check.all("15: PUBLIC, y is not looked at", Check.answers(x.make(4, 10, 0, MOST),
                x.make(5, 10, 1, LEAST), x.about(4, 0), x.same(4, 5)), 1, 1, 2, 0);
        Check.all("15: SHARED", Check.answers(x.make(6, 11, 0, 5), x.make(7, 11, 1, 4),
                x.about(6, 0), x.same(6, 7), x.make(7, 11, 0, 4), x.same(6, 7)), 1, 1, 3, 1, 1, 0);
        Check.all("15: SIGNED", Check.answers(x.make(8, 12, 0, 1), x.about(8, 0), x.part(9, 8, 5),
                x.same(9, 1)), 1, 6, 1, 1);
        none("15: a register is empty", x.make(10, 0, 20, 0), x.make(10, 0, 0, 20),
                x.make(10, 10, 20, 0), x.make(10, 11, 0, 20), x.make(10, 12, 0, 20),
                x.make(10, 12, 20, 0));
        none("15: none such", x.make(10, 10, 4, 0), x.make(10, 11, 4, 5), x.make(10, 11, 0, 1),
                x.make(10, 12, 4, 0), x.make(10, 11, 0, -1), x.make(10, 12, 0, -1));
        none("15: make", x.make(10, 13, 0, 1), x.make(10, -1, 0, 1), x.make(32, 0, 0, 1),
                x.make(-1, 0, 0, 1), x.make(10, 0, 32, 1), x.make(10, 0, 0, 32),
                x.make(10, 0, -1, 0), x.make(10, 0, 0, -2));
        due("15: it is empty still", x.about(10, 0), NONE);
    }

    /** "Register r gets SEALED(k, h, b) of three registers: 1." */
    private static void promise16() {
        SealedHouse x = new SealedHouse();
        Check.all("16: made", Check.answers(x.draw(0), x.draw(1), x.draw(2), x.seal(3, 0, 1, 2),
                x.about(3, 0), x.part(4, 3, 4), x.same(4, 1), x.unseal(4, 3, 0), x.same(4, 2)),
                1, 1, 1, 1, 5, 1, 1, 1, 1);
        Check.all("16: alike or not", Check.answers(x.seal(4, 0, 1, 2), x.same(4, 3),
                x.seal(4, 1, 1, 2), x.same(4, 3), x.seal(4, 0, 2, 2), x.same(4, 3),
                x.seal(4, 0, 1, 1), x.same(4, 3)), 1, 1, 1, 0, 1, 0, 1, 0);
        none("16: seal", x.seal(5, 6, 1, 2), x.seal(5, 0, 6, 2), x.seal(5, 0, 1, 6),
                x.seal(5, -1, 1, 2), x.seal(5, 0, -1, 2), x.seal(5, 0, 1, -1),
                x.seal(32, 0, 1, 2), x.seal(-1, 0, 1, 2), x.seal(5, 32, 1, 2), x.about(5, 0));
    }

    /** "the ROW in register x with the number k (0 .. 3) v, or (k 4) the KIND v (1 .. 7): 1." */
    private static void promise17() {
        SealedHouse x = published(0);
        due("17: a ROW", x.take(0, 1, 1), 1);
        int[] values = {LEAST, -1, 0, MOST};
        for (int k = 0; k < 4; k++) {
            due("17: alter " + k, x.alter(0, 0, k, values[k]), 1);
        }
        numbers(x, "17: numbers", 0, 7, 2, LEAST, -1, 0, MOST);
        Check.all("17: its PUBLIC is as it was", Check.answers(x.part(1, 0, 0), x.take(2, 1, 1),
                x.part(2, 2, 0), x.same(1, 2)), 1, 1, 1, 1);
        for (int kind = 1; kind <= 7; kind++) {
            due("17: KIND", x.alter(1, 0, 4, kind) * 10 + x.about(1, 1), 10 + kind);
        }
        due("17: register 0 is as it was", x.about(0, 1), 2);
        Check.all("17: into another register and back", Check.answers(x.alter(3, 0, 0, 5),
                x.same(3, 0), x.alter(3, 3, 0, LEAST), x.same(3, 0)), 1, 0, 1, 1);
        none("17: alter", x.alter(4, 0, 4, 0), x.alter(4, 0, 4, 8), x.alter(4, 0, 5, 1),
                x.alter(4, 0, -1, 1), x.alter(32, 0, 0, 1), x.alter(-1, 0, 0, 1),
                x.alter(4, 2, 0, 1), x.alter(4, 5, 0, 1), x.alter(4, 32, 0, 1), x.about(4, 0));
    }

    /** "the ROW in register x with the term k (0 .. 3) of register y (-1: NOTHING): 1." */
    private static void promise18() {
        SealedHouse x = published(0);
        Check.all("18: a ROW and a SECRET", Check.answers(x.take(0, 1, 1), x.draw(1)), 1, 1);
        for (int k = 0; k < 4; k++) {
            Check.all("18: swap " + k, Check.answers(x.swap(2, 0, k, 1), x.part(3, 2, k),
                    x.same(3, 1), x.same(2, 0), x.swap(2, 2, k, -1), x.part(3, 2, k)),
                    1, 1, 1, 0, 1, NONE);
            due("18: without its PUBLIC, or as before", x.same(2, 0), k == 0 ? 0 : 1);
        }
        none("18: swap", x.swap(4, 0, 4, 1), x.swap(4, 0, -1, 1), x.swap(4, 0, 0, 5),
                x.swap(4, 0, 0, -2), x.swap(4, 0, 0, 32), x.swap(4, 1, 0, 1), x.swap(4, 5, 0, 1),
                x.swap(32, 0, 0, 1), x.swap(-1, 0, 0, 1), x.swap(4, -1, 0, 1), x.about(4, 0));
    }

    /** "A place (0 .. 4) of device d in the DIRECTORY gets what is in register r (-1: NOTHING)." */
    private static void promise19() {
        SealedHouse x = published(1);
        due("19: draw", x.draw(0), 1);
        for (int place = 0; place < 5; place++) {
            Check.all("19: plant", Check.answers(x.plant(5, place, 0), x.take(1, 1, 25 + place),
                    x.same(1, 0), x.plant(5, place, -1), x.take(1, 1, 25 + place)),
                    1, 1, 1, 1, NONE);
        }
        Check.all("19: without a signed PREKEY", Check.answers(x.plant(1, 0, 0), x.begin(0, 1)), 1,
                -5);
        none("19: plant", x.plant(6, 0, 0), x.plant(-1, 0, 0), x.plant(0, 5, 0), x.plant(0, -1, 0),
                x.plant(0, 0, 32), x.plant(0, 0, -2), x.plant(0, 0, 2), x.take(2, 1, 0));
        due("19: publish again", x.publish(1), 6);
        due("19: it is there again", x.begin(0, 1), 1);
    }

    /** "A LOOK into d: how many terms." */
    private static void promise20() {
        SealedHouse x = published(1);
        due("20: keys", x.look(1), 6);
        due("20: list, post", x.list(0, 3) + x.post(0, 0), 2);
        due("20: IDENTITY; a session; what it BEARS; CHAIN, SIGNER", x.look(0), 10);
        int[] kinds = {1, 2, 4, 1, 2, 4, 2, 2, 4, 1};
        for (int i = 0; i < kinds.length; i++) {
            due("20: term " + i, x.take(0, 3, i) == 1 ? x.about(0, 0) : NONE, kinds[i]);
        }
        due("20: no more", x.take(0, 3, kinds.length), NONE);
        due("20: as many as lie there", x.device(0, 5), 10);
        Check.all("20: a list, a GIFT", Check.answers(x.deliver(1, 0), x.deliver(1, 1)), 3, 2);
        due("20: DOWN or not", x.crash(1, 1) + x.publish(1), 1 + CRASHED);
        due("20: both halves", x.look(1), x.device(1, 5));
        none("20: look", x.look(-1), x.look(6), x.look(LEAST), x.look(MOST));
    }

    /** "Whether two registers have the same term (1, 0). NONE: one is empty." */
    private static void promise21() {
        SealedHouse x = new SealedHouse();
        Check.all("21: same", Check.answers(x.draw(0), x.draw(1), x.make(2, 10, 0, -1),
                x.make(3, 10, 0, -1), x.same(0, 0), x.same(0, 1), x.same(2, 3), x.same(0, 2)),
                1, 1, 1, 1, 1, 0, 1, 0);
        none("21: same", x.same(0, 4), x.same(4, 0), x.same(4, 4), x.same(0, 32), x.same(-1, 0),
                x.same(0, -1), x.same(LEAST, MOST));
    }

    /** "Of the term in register x, what 0: 1 SECRET, .. 7 ROW; 1: n of a MIX, the KIND of a ROW." */
    private static void promise22() {
        SealedHouse x = published(0);
        Check.all("22: made", Check.answers(x.draw(1), x.make(2, 10, 1, -1), x.make(3, 11, 1, 2),
                x.make(4, 9, 1, -1), x.seal(5, 1, 2, 3), x.make(6, 12, 1, 2), x.take(7, 1, 2)),
                1, 1, 1, 1, 1, 1, 1);
        for (int kind = 1; kind <= 6; kind++) {
            numbers(x, "22: kind " + kind, kind, kind, kind == 4 ? 9 : 0, 0, 0, 0, 0);
        }
        numbers(x, "22: a ROW", 7, 7, 2, 0, 3, 0, 0);
        none("22: about", x.about(7, 6), x.about(7, -1), x.about(8, 0), x.about(32, 0),
                x.about(-1, 0), x.about(7, LEAST), x.about(7, MOST));
    }

    /** "Whether the SECRET of letter l is DERIVED (1, 0)." */
    private static void promise23() {
        SealedHouse x = published(1);
        Check.all("23: two letters", Check.answers(x.send(0, 1), x.send(0, 1)), 0, 1);
        Check.all("23: not DERIVED", Check.answers(x.derived(0), x.derived(1)), 0, 0);
        due("23: the second one is taken", x.deliver(1, 1), 1);
        due("23: a look finds the key that is LEFT", x.look(1), 12);
        Check.all("23: the first one alone", Check.answers(x.derived(0), x.derived(1)), 1, 0);
        due("23: another letter, on a chain that was looked at", x.send(0, 1), 2);
        due("23: DERIVED", x.derived(2), 1);
        none("23: derived", x.derived(3), x.derived(-1), x.derived(LEAST), x.derived(MOST));
    }

    // ---- what is told

    /** "The letter of a wire; NONE if it bears none (or there is no such wire)." */
    private static void promise24() {
        SealedHouse x = published(1);
        Check.all("24: a list, a letter, a GIFT and a post, a letter", Check.answers(x.list(0, 3),
                x.send(0, 1), x.post(0, 0), x.send(0, 1)), 0, 1, 3, 4);
        Check.all("24: letters", Check.answers(x.letter(0), x.letter(1), x.letter(2), x.letter(3),
                x.letter(4)), NONE, 0, NONE, 1, 2);
        none("24: letter", x.letter(5), x.letter(-1), x.letter(LEAST), x.letter(MOST));
    }

    /** "Of the LETTER that d took last, what 0: its number, 1: from whom, 2: by which group, 3 .." */
    private static void promise25() {
        SealedHouse x = published(0, 1, 2);
        Check.all("25: none yet", Check.answers(x.taken(0, 0), x.taken(0, 1), x.taken(0, 2),
                x.taken(0, 3)), NONE, NONE, NONE, 0);
        Check.all("25: sent", Check.answers(x.send(2, 0), x.send(1, 0)), 0, 1);
        Check.all("25: taken", Check.answers(x.deliver(0, 1), x.taken(0, 0), x.taken(0, 1),
                x.taken(0, 2), x.taken(0, 3)), 1, 1, 1, NONE, 1);
        Check.all("25: the other one", Check.answers(x.deliver(0, 0), x.taken(0, 0),
                x.taken(0, 1), x.taken(0, 2), x.taken(0, 3)), 1, 0, 2, NONE, 2);
        Check.all("25: posted", Check.answers(x.list(1, 3), x.post(1, 1), x.deliver(0, 2),
                x.deliver(0, 3)), 2, 4, 3, 2);
        due("25: a GIFT is no letter", x.taken(0, 3), 2);
        Check.all("25: a post", Check.answers(x.deliver(0, 4), x.taken(0, 0), x.taken(0, 1),
                x.taken(0, 2), x.taken(0, 3)), 1, 2, 1, 1, 3);
        Check.all("25: refused", Check.answers(x.deliver(0, 4), x.taken(0, 3)), -13, 3);
        none("25: taken", x.taken(0, 4), x.taken(0, -1), x.taken(6, 3), x.taken(-1, 3),
                x.taken(0, MOST));
    }

    /** "0: its PREKEY's number now, 1: of the one before, 2: ONE-TIME keys, 3: BASES, 4 .. 7" */
    private static void promise26() {
        SealedHouse x = published(1);
        for (int place = 1; place < 5; place++) {
            due("26: no one-time keys to be had", x.plant(1, place, -1), 1);
        }
        Check.all("26: a session without one", Check.answers(x.send(0, 1), x.deliver(1, 0)), 0, 1);
        int[] want = {1, 0, 4, 1, 12, 12, 0, 0};
        for (int what = 0; what < want.length; what++) {
            due("26: device " + what, x.device(1, what), want[what]);
        }
        due("26: another PREKEY", x.publish(1), 6);
        want = new int[] {6, 1, 4, 0, 13, 13, 1, 0};
        for (int what = 0; what < want.length; what++) {
            due("26: device, published " + what, x.device(1, what), want[what]);
        }
        none("26: device", x.device(1, 8), x.device(1, -1), x.device(6, 0), x.device(-1, 0),
                x.device(1, LEAST), x.device(1, MOST));
    }

    /** "Of session k (0, 1) of d with p, what 0: N, 1: BEFORE, 2: NEXT, 3: LEFT keys, 4 .. 6" */
    private static void promise27() {
        SealedHouse x = published(1);
        Check.all("27: sent", Check.answers(x.send(0, 1), x.send(0, 1), x.send(0, 1)), 0, 1, 2);
        due("27: the last one is taken", x.deliver(1, 2), 1);
        int[] want = {0, 0, 3, 2, 0, 0, 1};
        for (int what = 0; what < 7; what++) {
            due("27: session of 1, " + what, x.session(1, 0, 0, what), want[what]);
        }
        Check.all("27: answered", Check.answers(x.send(1, 0), x.deliver(0, 3), x.send(0, 1)), 3, 1,
                4);
        want = new int[] {1, 3, 1, 0, 0, 1, 1};
        for (int what = 0; what < 7; what++) {
            due("27: session of 0, " + what, x.session(0, 1, 0, what), want[what]);
        }
        due("27: another one", x.begin(0, 1), 2);
        Check.all("27: it is the first", Check.answers(x.session(0, 1, 0, 0),
                x.session(0, 1, 1, 0), x.session(0, 1, 0, 4), x.session(0, 1, 1, 4)), 0, 1, 1, 0);
        none("27: session", x.session(0, 1, 2, 0), x.session(0, 1, -1, 0), x.session(0, 1, 0, 7),
                x.session(0, 1, 0, -1), x.session(0, 0, 0, 0), x.session(0, 2, 0, 0),
                x.session(6, 0, 0, 0), x.session(0, 6, 0, 0), x.session(-1, 0, 0, 0),
                x.session(1, 0, 1, 0));
    }

    /** "0: VERSION, .. 6: 1 if STALE; 10 + p: how many keys it has of device p, 20 + p .. 40 + p" */
    private static void promise28() {
        SealedHouse x = published(0, 1, 2);
        Check.all("28: lists", Check.answers(x.list(2, 7), x.deliver(0, 0), x.deliver(1, 0)), 0, 3,
                3);
        Check.all("28: posts", Check.answers(x.post(0, 2), x.post(0, 2), x.post(0, 2)), 3, 4, 5);
        Check.all("28: the poster", Check.answers(x.group(0, 2, 0), x.group(0, 2, 1),
                x.group(0, 2, 2), x.group(0, 2, 3), x.group(0, 2, 4), x.group(0, 2, 5),
                x.group(0, 2, 6)), 1, 7, 0, 1, 3, 6, 0);
        Check.all("28: no key yet", Check.answers(x.group(2, 2, 10), x.group(2, 2, 20),
                x.group(2, 2, 30), x.group(2, 2, 40)), 0, NONE, NONE, NONE);
        Check.all("28: a GIFT and the last post", Check.answers(x.deliver(2, 2), x.deliver(2, 5)),
                2, 1);
        Check.all("28: one key", Check.answers(x.group(2, 2, 10), x.group(2, 2, 20),
                x.group(2, 2, 30), x.group(2, 2, 40)), 1, 1, 3, 2);
        Check.all("28: of its own it was given none", Check.answers(x.group(0, 2, 10),
                x.group(0, 2, 20), x.group(2, 2, 12), x.group(2, 2, 22)), 0, NONE, 0, NONE);
        Check.all("28: without 1", Check.answers(x.list(2, 5), x.deliver(0, 6), x.post(0, 2),
                x.deliver(2, 7)), 6, 3, 8, 2);
        Check.all("28: two keys, the first one is the new one", Check.answers(x.group(2, 2, 10),
                x.group(2, 2, 20), x.group(2, 2, 30), x.group(2, 2, 40), x.group(2, 2, 2),
                x.group(2, 2, 6)), 2, 2, 0, 0, 2, 1);
        due("28: without 0", x.list(2, 4), 9);
        Check.all("28: what was given by it went", Check.answers(x.group(2, 2, 10),
                x.group(2, 2, 20), x.group(2, 2, 2)), 0, NONE, 3);
        none("28: group", x.group(0, 2, 7), x.group(0, 2, 9), x.group(0, 2, 16), x.group(0, 2, 19),
                x.group(0, 2, 26), x.group(0, 2, 46), x.group(0, 2, 50), x.group(0, 2, -1),
                x.group(0, 2, -10), x.group(0, 4, 0), x.group(0, -1, 0), x.group(6, 0, 0),
                x.group(-1, 0, 0), x.group(0, 2, MOST), x.group(0, 2, LEAST));
    }

    /** "What 0: wires, 1: letters, 2: DRAWS (also those of calls that CRASHED)." */
    private static void promise29() {
        SealedHouse x = published(1);
        Check.all("29: a list, a GIFT and a post, a letter", Check.answers(x.list(0, 3),
                x.post(0, 0), x.send(0, 1)), 0, 2, 3);
        Check.all("29: counts", Check.answers(x.count(0), x.count(1), x.count(2)), 4, 2, 17);
        due("29: a cut", x.crash(1, 1) + x.publish(1), 1 + CRASHED);
        Check.all("29: a DRAW", Check.answers(x.count(0), x.count(1), x.count(2)), 4, 2, 18);
        none("29: count", x.count(3), x.count(-1), x.count(LEAST), x.count(MOST));
    }

    /** Device 1 has what device 0 sent it, in an order of the attacker's, again and again. */
    private static SealedHouse replayed() {
        SealedHouse x = published(0, 1);
        due("list", x.list(0, 3), 0);
        for (int i = 0; i < 3; i++) {
            x.send(0, 1);
            x.post(0, 0);
            x.begin(0, 1);
        }
        for (int again = 0; again < 3; again++) {
            for (int w = x.count(0) - 1; w >= 0; w--) {
                x.deliver(1, w);
                x.deliver(0, w);
            }
        }
        due("letters", x.count(1), 6);
        due("each was taken once", x.taken(1, 3), 6);
        return x;
    }

    /** "letters .. taken .. by a device d as from s .. that s had not sent d, or posted .." */
    private static void promise30() {
        SealedHouse x = replayed();
        due("30: all were sent", x.forged(), 0);
        Check.all("30: altered", Check.answers(x.take(0, 0, 1), x.part(1, 0, 4), x.draw(2),
                x.seal(3, 2, 1, 1), x.inject(1, 3)), 1, 1, 1, 1, -13);
        due("30: it was not taken", x.forged(), 0);
        x = published(1);
        Forge.begin(x, 0, 1, 1);
        Forge.firstLetter(x, 0, 1, true);
        Check.all("30: one that was looked into may be forged", Check.answers(
                x.inject(1, Forge.MADE), x.taken(1, 0), x.taken(1, 1), x.forged()), 1, NONE, 0, 0);
    }

    /** "How many times a device took a letter from s .. that it had taken before." */
    private static void promise31() {
        due("31: nothing was taken twice", replayed().doubled(), 0);
        SealedHouse x = published(1);
        Check.all("31: cut, and taken when it is up", Check.answers(x.send(0, 1), x.crash(1, 1),
                x.deliver(1, 0), x.up(1), x.deliver(1, 0), x.doubled()), 0, 1, CRASHED, 1, 1, 0);
    }

    /** "How many letters are DERIVED now for which one of these is so now .." */
    private static void promise32() {
        SealedHouse x = replayed();
        due("32: looks at all that is there", x.look(0) > 0 && x.look(1) > 0 ? 1 : 0, 1);
        for (int l = 0; l < 6; l++) {
            due("32: taken before any look", x.derived(l), 0);
        }
        due("32: none leaked", x.leaked(), 0);
        int next = x.send(0, 1);
        Check.all("32: sent with keys that were looked at", Check.answers(x.derived(6),
                x.leaked()), 1, 0);
        Check.all("32: both ends draw keys behind the looks", Check.answers(x.deliver(1, next),
                x.send(1, 0), x.deliver(0, next + 1), x.send(0, 1)), 1, next + 1, 1, next + 2);
        Check.all("32: these are not DERIVED", Check.answers(x.derived(8), x.leaked()), 0, 0);
    }

    // ---- "An object is used for at most 512 calls after it has been made"

    private static void callsOfOneObject() {
        SealedHouse x = published(1);
        for (int call = 2; call <= 512; call++) {
            due("call " + call, x.send(0, 1), call - 2);
        }
    }
}
