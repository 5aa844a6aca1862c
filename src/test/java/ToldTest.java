/** Promises 24 to 32: what is told. */
public final class ToldTest {
    private static final int NONE = SealedHouse.NONE;
    private static final int[] NO_DEVICE = {Integer.MIN_VALUE, -1, 6, Integer.MAX_VALUE};

    private ToldTest() {
    }

    public static void main(String[] args) {
        letter();
        taken();
        device();
        session();
        group();
        groupKeys();
        count();
        askingChangesNothing();
        forgedByOneLookedInto();
        doubledByOneLookedInto();
        leakedNeedsAClause();
        leakedStaysZero();
        Check.end();
    }

    private static void due(String what, int got, int want) {
        Check.due(what, got, want);
    }

    private static SealedHouse published(int devices) {
        SealedHouse x = new SealedHouse();
        for (int d = 0; d < devices; d++) {
            x.publish(d);
        }
        return x;
    }

    private static void letter() {
        SealedHouse x = published(2);
        due("no wire", x.letter(0), NONE);
        due("list", x.list(0, 3), 0);
        due("send", x.send(0, 1), 1);
        due("post", x.post(0, 0), 3);
        due("send", x.send(1, 0), 4);
        Check.all("letters", Check.answers(x.letter(-1), x.letter(0), x.letter(1), x.letter(2),
                x.letter(3), x.letter(4), x.letter(5)), NONE, NONE, 0, NONE, 1, 2, NONE);
        x.crash(0, 0);
        x.send(0, 1);
        due("a letter that is not told", x.count(1), 3);
        due("send", x.send(1, 0), 5);
        due("has no number", x.letter(5), 3);
    }

    private static void taken() {
        SealedHouse x = published(3);
        for (int d : NO_DEVICE) {
            due("no device", x.taken(d, 3), NONE);
        }
        for (int what = -1; what <= 4; what++) {
            due("none yet", x.taken(1, what), what == 3 ? 0 : NONE);
        }
        x.list(0, 7);
        x.deliver(1, 0);
        due("a list is none", x.taken(1, 3), 0);
        x.post(0, 0);
        x.deliver(1, 1);
        due("nor is a gift", x.taken(1, 3), 0);
        due("deliver", x.deliver(1, 3), 1);
        Check.all("by the group", Check.answers(x.taken(1, -1), x.taken(1, 0), x.taken(1, 1),
                x.taken(1, 2), x.taken(1, 3), x.taken(1, 4)), NONE, 0, 0, 0, 1, NONE);
        x.send(2, 1);
        due("deliver", x.deliver(1, 4), 1);
        Check.all("from 2", Check.answers(x.taken(1, 0), x.taken(1, 1), x.taken(1, 2),
                x.taken(1, 3)), 1, 2, NONE, 2);
        due("refused", x.deliver(1, 4), -13);
        due("taken", x.taken(1, 3), 2);
        x.crash(1, 4);
        x.send(2, 1);
        due("cut behind the head", x.deliver(1, 5), SealedHouse.CRASHED);
        due("it is not told that it was taken", x.taken(1, 3), 2);
        x.up(1);
        due("though it was", x.deliver(1, 5), -13);
        due("others took none", x.taken(2, 3), 0);
    }

    private static void device() {
        SealedHouse x = published(2);
        for (int d : NO_DEVICE) {
            due("no device", x.device(d, 0), NONE);
        }
        due("no such", x.device(0, -1), NONE);
        due("no such", x.device(0, 8), NONE);
        x.publish(1);
        x.plant(1, 1, -1);
        x.plant(1, 2, -1);
        x.plant(1, 3, -1);
        x.plant(1, 4, -1);
        x.send(0, 1);
        x.deliver(1, 0);
        Check.all("device", Check.answers(x.device(1, 0), x.device(1, 1), x.device(1, 2),
                x.device(1, 3), x.device(1, 4), x.device(1, 5), x.device(1, 6), x.device(1, 7)),
                6, 1, 4, 1, 1 + 2 + 1 + 4 + 5, 13, 1, 0);
        Check.all("sender", Check.answers(x.device(0, 4), x.device(0, 5)), 12, 12);
        x.publish(1);
        Check.all("the BASE lies with the one before", Check.answers(x.device(1, 0), x.device(1, 1),
                x.device(1, 3), x.device(1, 4)), 7, 6, 0, 13);
        x.publish(1);
        Check.all("and goes with it", Check.answers(x.device(1, 0), x.device(1, 1),
                x.device(1, 3), x.device(1, 4)), 8, 7, 0, 12);
    }

    private static void session() {
        SealedHouse x = published(2);
        x.send(0, 1);
        for (int d : NO_DEVICE) {
            due("no device", x.session(d, 1, 0, 0), NONE);
            due("no device", x.session(0, d, 0, 0), NONE);
        }
        due("with itself", x.session(0, 0, 0, 0), NONE);
        due("none such", x.session(0, 1, 1, 0), NONE);
        due("none such", x.session(0, 1, -1, 0), NONE);
        due("none such", x.session(0, 2, 0, 0), NONE);
        due("no such", x.session(0, 1, 0, 7), NONE);
        due("no such", x.session(0, 1, 0, -1), NONE);
        due("N", x.session(0, 1, 0, 0), 1);
        x.begin(0, 1);
        due("there are two", x.session(0, 1, 1, 0), 1);
        due("no third", x.session(0, 1, 2, 0), NONE);
    }

    private static void group() {
        SealedHouse x = published(2);
        for (int d : NO_DEVICE) {
            due("no device", x.group(d, 0, 0), NONE);
        }
        due("no group", x.group(0, -1, 0), NONE);
        due("no group", x.group(0, 4, 0), NONE);
        for (int what : new int[] {Integer.MIN_VALUE, -10, -1, 7, 8, 9, 16, 19, 26, 36, 46, 50, 51,
            Integer.MAX_VALUE}) {
            due("no such " + what, x.group(0, 0, what), NONE);
        }
        for (int what = 0; what <= 6; what++) {
            due("at first", x.group(5, 3, what), 0);
        }
        for (int p = 0; p < 6; p++) {
            Check.all("no keys", Check.answers(x.group(1, 0, 10 + p), x.group(1, 0, 20 + p),
                    x.group(1, 0, 30 + p), x.group(1, 0, 40 + p)), 0, NONE, NONE, NONE);
        }
        x.list(0, 3);
        x.post(0, 0);
        Check.all("of the owner", Check.answers(x.group(0, 0, 0), x.group(0, 0, 1),
                x.group(0, 0, 2), x.group(0, 0, 3), x.group(0, 0, 4), x.group(0, 0, 5),
                x.group(0, 0, 6)), 1, 3, 0, 1, 1, 2, 0);
    }

    private static void groupKeys() {
        SealedHouse x = published(6);
        x.list(0, 63);
        int last = x.post(0, 0);
        due("gifts to five", last, 6);
        due("gift", x.deliver(1, 1), 2);
        for (int gone = 5; gone > 2; gone--) {
            x.list(0, (1 << gone) - 1);
            last = x.post(0, 0);
            due("gift " + gone, x.deliver(1, last - gone + 1), 2);
            due("two at most", x.group(1, 0, 10), 2);
            due("the first one", x.group(1, 0, 20), 7 - gone);
        }
        x.list(0, 3);
        last = x.post(0, 0);
        due("the one of the first generation went", x.deliver(1, 6), -17);
        due("list", x.deliver(1, last - 2), 3);
        due("without a key", x.deliver(1, last), -17);
        due("gift", x.deliver(1, last - 1), 2);
        due("the generation before", x.deliver(1, 17), -17);
        due("post", x.post(0, 0), last + 1);
        due("post", x.deliver(1, last + 1), 1);
        Check.all("NEXT, LEFT", Check.answers(x.group(1, 0, 30), x.group(1, 0, 40)), 2, 1);
        x.deliver(1, last);
        Check.all("NEXT, LEFT", Check.answers(x.group(1, 0, 30), x.group(1, 0, 40)), 2, 0);
    }

    private static void count() {
        SealedHouse x = published(1);
        due("no such", x.count(-1), NONE);
        due("no such", x.count(3), NONE);
        x.draw(0);
        Check.all("counts", Check.answers(x.count(0), x.count(1), x.count(2)), 0, 0, 12);
        x.send(1, 0);
        Check.all("counts", Check.answers(x.count(0), x.count(1), x.count(2)), 1, 1, 15);
        x.list(0, 3);
        Check.all("counts", Check.answers(x.count(0), x.count(1), x.count(2)), 2, 1, 15);
        x.crash(1, 0);
        x.send(1, 0);
        Check.all("counts", Check.answers(x.count(0), x.count(1), x.count(2)), 2, 1, 16);
    }

    private static void askingChangesNothing() {
        Pair pair = new Pair();
        pair.publish(0);
        pair.publish(1);
        pair.everything();
        pair.send(0, 1);
        pair.everything();
        pair.deliver(1, 0);
        pair.everything();
        due("as the model says", pair.wrong ? 1 : 0, 0);
    }

    /**
     * A letter to device 1 in the name of device 2, which has been looked into: it begins a session
     * without a one-time key, and says how many went on the chain before, though there was none.
     * Register 3 has the body; registers 5 to 13 are used.
     */
    private static int sendAsTwo(SealedHouse x) {
        x.look(2);
        x.take(5, 3, 0);
        x.take(6, 1, 5);
        x.part(6, 6, 5);
        x.part(7, 6, 0);
        x.draw(8);
        x.make(9, 11, 5, 7);
        x.take(10, 2, 1);
        x.make(10, 11, 8, 10);
        x.make(9, 0, 9, 10);
        x.make(10, 11, 8, 7);
        x.make(9, 1, 9, 10);
        x.make(9, 3, 9, -1);
        x.make(9, 5, 9, 10);
        x.make(9, 6, 9, -1);
        x.alter(11, 6, 4, 3);
        x.alter(11, 11, 0, 2);
        x.alter(11, 11, 1, 1);
        x.alter(11, 11, 3, 9);
        x.make(12, 10, 8, -1);
        x.swap(11, 11, 0, 12);
        x.swap(11, 11, 1, 12);
        x.swap(11, 11, 2, 7);
        x.seal(13, 9, 11, 3);
        return x.inject(1, 13);
    }

    private static void forgedByOneLookedInto() {
        SealedHouse x = published(3);
        due("forged", x.forged(), 0);
        x.send(0, 1);
        x.deliver(1, 0);
        due("an honest one", x.forged(), 0);
        x.take(0, 1, 0);
        x.part(3, 0, 5);
        x.alter(3, 3, 4, 4);
        x.alter(3, 3, 1, 0);
        x.draw(4);
        x.swap(3, 3, 0, 4);
        due("a letter that 2 never sent", sendAsTwo(x), 1);
        Check.all("taken", Check.answers(x.taken(1, 0), x.taken(1, 1), x.taken(1, 2), x.taken(1, 3)),
                NONE, 2, NONE, 2);
        due("nothing was left of the chain before", x.session(1, 2, 0, 3), 0);
        due("2 had been looked into", x.forged(), 0);
        due("no double", x.doubled(), 0);
        due("and no replay", x.inject(1, 13), -13);
    }

    private static void doubledByOneLookedInto() {
        SealedHouse x = published(4);
        x.list(0, 15);
        x.deliver(1, 0);
        x.deliver(2, 0);
        x.deliver(3, 0);
        due("post", x.post(0, 0), 4);
        due("gift", x.deliver(2, 2), 2);
        due("look", x.look(2), 12);
        x.take(0, 3, 10);
        x.make(1, 6, 0, -1);
        x.take(2, 0, 4);
        x.part(2, 2, 5);
        due("the post is open", x.unseal(3, 2, 1), 1);
        due("derived", x.derived(0), 1);
        due("its letter comes from 2", sendAsTwo(x), 1);
        Check.all("taken", Check.answers(x.taken(1, 0), x.taken(1, 1), x.taken(1, 2)), 0, 2, NONE);
        due("gift", x.deliver(3, 3), 2);
        due("another one takes it", x.deliver(3, 4), 1);
        Check.all("none yet", Check.answers(x.forged(), x.doubled()), 0, 0);
        due("gift", x.deliver(1, 1), 2);
        due("and from 0", x.deliver(1, 4), 1);
        Check.all("taken", Check.answers(x.taken(1, 0), x.taken(1, 1), x.taken(1, 2)), 0, 0, 0);
        Check.all("0 and 1 had not been looked into", Check.answers(x.forged(), x.doubled()), 0, 1);
        SealedHouse y = published(3);
        y.list(0, 7);
        y.deliver(1, 0);
        y.post(0, 0);
        y.deliver(1, 1);
        y.deliver(2, 2);
        y.look(2);
        y.take(0, 3, 10);
        y.make(1, 6, 0, -1);
        y.take(2, 0, 3);
        y.part(2, 2, 5);
        y.unseal(3, 2, 1);
        due("the letter from 0", y.deliver(1, 3), 1);
        due("its letter comes from 2, too", sendAsTwo(y), 1);
        due("2 had been looked into", y.doubled(), 0);
    }

    private static void leakedNeedsAClause() {
        SealedHouse x = published(2);
        x.look(0);
        x.look(1);
        x.send(0, 1);
        due("derived, by keys drawn ahead of the look", x.derived(0), 1);
        due("no clause", x.leaked(), 0);
        x.publish(1);
        x.begin(0, 1);
        x.send(0, 1);
        due("keys drawn behind the looks", x.derived(1), 0);
        x.look(1);
        due("derived", x.derived(1), 1);
        due("but 1 was looked into behind it", x.leaked(), 0);
        SealedHouse y = published(2);
        for (int i = 1; i < 5; i++) {
            y.plant(1, i, -1);
        }
        y.send(0, 1);
        y.deliver(1, 0);
        y.look(1);
        due("derived", y.derived(0), 1);
        due("without a one-time key", y.leaked(), 0);
        SealedHouse z = published(3);
        z.list(0, 7);
        z.post(0, 0);
        z.deliver(2, 2);
        z.look(2);
        due("derived", z.derived(0), 1);
        due("2 is in the list", z.leaked(), 0);
    }

    private static void leakedStaysZero() {
        SealedHouse x = published(3);
        x.list(0, 7);
        x.deliver(1, 0);
        x.deliver(2, 0);
        x.post(0, 0);
        x.deliver(1, 1);
        x.deliver(2, 2);
        x.deliver(1, 3);
        x.deliver(2, 3);
        x.send(0, 1);
        x.deliver(1, 4);
        for (int d = 0; d < 3; d++) {
            x.look(d);
        }
        Check.all("taken before the looks", Check.answers(x.derived(0), x.derived(1), x.leaked()),
                0, 0, 0);
        x.send(1, 0);
        due("THEIRS was seen", x.derived(2), 1);
        x.deliver(0, 5);
        x.send(0, 1);
        x.deliver(1, 6);
        x.send(1, 0);
        Check.all("keys heal", Check.answers(x.derived(3), x.derived(4), x.leaked()), 0, 0, 0);
    }
}
