import java.util.function.Consumer;
import java.util.function.ToIntFunction;

/** Part V, sentence by sentence: entries, blocks, commits that are cut, looks. */
public final class StoreEdgesTest {
    private static final int NONE = SealedHouse.NONE;
    private static final int DOWN = SealedHouse.DOWN;
    private static final int CRASHED = SealedHouse.CRASHED;

    private StoreEdgesTest() {
    }

    public static void main(String[] args) {
        identityInHalfZero();
        entriesInTheirOrder();
        entriesThatMayBeNothing();
        callsThatCommit();
        callsThatDoNot();
        blocksOfEight();
        writesOneAfterTheOther();
        aStoreThatIsFull();
        cutsFromZeroToTwoHundred();
        notMoreThanK();
        theLatestCounts();
        itWaitsThroughRefusedCalls();
        itWaitsThroughUp();
        crashOfOneThatIsDown();
        aCutIsOverBehindACrash();
        cutPublish();
        cutBegin();
        cutSend();
        cutList();
        cutPost();
        cutLetter();
        cutGift();
        cutListThatComes();
        cutCountsDraws();
        upMakesTheOtherHalfEmpty();
        upOfOneThatIsNot();
        lookInOrder();
        lookIntoOneThatIsDown();
        Check.end();
    }

    private static void deviceIs(SealedHouse x, int d, int entries, int terms, int half, int down) {
        Check.all("entries, terms, half, DOWN", Check.answers(x.device(d, 4), x.device(d, 5),
                x.device(d, 6), x.device(d, 7)), entries, terms, half, down);
    }

    private static SealedHouse published(int devices) {
        SealedHouse x = new SealedHouse();
        for (int d = 0; d < devices; d++) {
            x.publish(d);
        }
        return x;
    }

    /** "At first the IDENTITY lies in half 0." */
    private static void identityInHalfZero() {
        SealedHouse x = new SealedHouse();
        for (int d = 0; d < 6; d++) {
            deviceIs(x, d, 1, 1, 0, 0);
        }
    }

    // ---- entries

    private static void seen(SealedHouse x, String what, int... kinds) {
        for (int i = 0; i < kinds.length; i++) {
            Check.due(what + ": there is term " + i, x.take(31, 3, i), 1);
            int kind = x.about(31, 0);
            Check.due(what + ": term " + i, kind == 4 ? 40 + x.about(31, 1) : kind, kinds[i]);
        }
        Check.due(what + ": no more", x.take(31, 3, kinds.length), NONE);
    }

    /** "ENTRIES of what a device has, in this order" */
    private static void entriesInTheirOrder() {
        SealedHouse x = published(4);
        for (int place = 1; place < 5; place++) {
            x.plant(0, place, -1);
        }
        x.send(2, 0);
        x.send(2, 0);
        Check.due("a BASE, a LEFT key", x.deliver(0, 1), 1);
        x.publish(0);
        for (int place = 1; place < 5; place++) {
            x.plant(0, place, -1);
        }
        x.send(1, 0);
        Check.due("a BASE of the PREKEY now", x.deliver(0, 2), 1);
        Check.due("a session with ONCE", x.begin(0, 3), 1);
        x.list(1, 3);
        x.deliver(0, 3);
        x.list(0, 3);
        Check.due("a key of its own", x.post(0, 0), 6);
        x.post(1, 1);
        x.post(1, 1);
        Check.due("a gift", x.deliver(0, 7), 2);
        Check.due("a LEFT key", x.deliver(0, 9), 1);
        Check.due("entries", x.device(0, 4), 9 + 6 + 6 + 6 + 1 + 2);
        Check.due("terms", x.look(0), 9 + 6 + 7 + 7 + 2 + 3);
        seen(x, "a look",
                // IDENTITY, PREKEY, BASE, the one before, BASE, four ONE-TIME keys
                1, 1, 2, 1, 2, 1, 1, 1, 1,
                // with 1: BASE, ROOT, MINE, THEIRS, SEND, RECEIVE
                2, 44, 1, 2, 47, 47,
                // with 2: likewise without SEND, and a LEFT key with its PUBLIC
                2, 44, 1, 2, 47, 46, 2,
                // with 3: BASE, ROOT, MINE, THEIRS, SEND, what it BEARS
                2, 44, 1, 2, 45, 2, 2,
                // group 0: CHAIN and SIGNER; group 1: CHAIN and PUBLIC, a LEFT key
                47, 1, 47, 2, 46);
    }

    /** "THEIRS; SEND; RECEIVE (these three if they are not NOTHING); what it BEARS (if so ..)" */
    private static void entriesThatMayBeNothing() {
        SealedHouse x = published(2);
        Check.due("it begins", x.send(0, 1), 0);
        deviceIs(x, 0, 6 + 6, 6 + 7, 0, 0);
        Check.due("it takes", x.deliver(1, 0), 1);
        deviceIs(x, 1, 5 + 5, 5 + 5, 0, 0);
        Check.due("it answers", x.send(1, 0), 1);
        deviceIs(x, 1, 5 + 6, 5 + 6, 1, 0);
        Check.due("that is taken", x.deliver(0, 1), 1);
        deviceIs(x, 0, 6 + 5, 6 + 5, 1, 0);
        Check.due("and answered", x.send(0, 1), 2);
        deviceIs(x, 0, 6 + 6, 6 + 6, 0, 0);
        for (int place = 1; place < 5; place++) {
            x.plant(1, place, -1);
        }
        Check.due("without ONCE", x.begin(2, 1), 1);
        deviceIs(x, 2, 1 + 6, 1 + 6, 1, 0);
    }

    // ---- commits

    /** "Each call of a device that is not refused COMMITS what it has then" */
    private static void callsThatCommit() {
        SealedHouse x = new SealedHouse();
        x.publish(1);
        Check.due("publish", x.device(1, 6), 1);
        x.publish(0);
        x.begin(0, 1);
        Check.due("begin", x.device(0, 6), 0);
        x.send(0, 1);
        Check.due("send", x.device(0, 6), 1);
        x.list(0, 3);
        Check.due("list", x.device(0, 6), 0);
        x.post(0, 0);
        Check.due("post, with a gift", x.device(0, 6), 1);
        int[] wires = {0, 1, 2, 3};
        for (int i = 0; i < wires.length; i++) {
            Check.due("deliver", x.deliver(1, wires[i]) > 0 ? 1 : 0, 1);
            Check.due("deliver " + i, x.device(1, 6), i % 2 == 0 ? 0 : 1);
        }
        x.send(0, 1);
        x.take(0, 0, 4);
        Check.due("inject", x.inject(1, 0), 1);
        Check.due("inject", x.device(1, 6), 0);
        Check.due("the sender is not asked", x.device(0, 6), 0);
    }

    private static void callsThatDoNot() {
        Twins t = Twins.published(2);
        t.due("half", x -> x.device(0, 6), 1);
        t.refused("-5", x -> x.begin(0, 4), -5);
        t.refused("-5", x -> x.send(0, 4), -5);
        t.refused("-6", x -> x.list(0, 2), -6);
        t.refused("-6", x -> x.post(0, 0), -6);
        t.run(x -> x.draw(0));
        t.refused("-10", x -> x.inject(0, 0), -10);
        t.due("send", x -> x.send(1, 0), 0);
        t.due("begun with by another", x -> x.device(0, 6), 1);
        t.due("deliver", x -> x.deliver(0, 0), 1);
        t.due("half", x -> x.device(0, 6), 0);
        t.refused("-13", x -> x.deliver(0, 0), -13);
        t.due("crash", x -> x.crash(0, 200), 1);
        t.due("up", x -> x.up(0), 0);
        t.due("plant", x -> x.plant(0, 0, 0), 1);
        t.due("look", x -> x.look(0), 10);
        t.due("half", x -> x.device(0, 6), 0);
        t.end();
    }

    /** What is cut, and what is due when it is cut behind k WRITES. */
    private static final class Cut {
        private final int d;
        private final Consumer<SealedHouse> past;
        private final ToIntFunction<SealedHouse> call;
        private int before;
        private int then;

        private Cut(int device, Consumer<SealedHouse> steps, ToIntFunction<SealedHouse> cutCall) {
            d = device;
            past = steps;
            call = cutCall;
        }

        private static int blocks(int entries) {
            return entries / 8 + (entries % 8 == 0 ? 0 : 1);
        }

        /** With so many entries before and then, each of one term or of another number in all. */
        private void hasWrites(int entriesBefore, int entriesThen) {
            before = entriesBefore;
            then = entriesThen;
            int head = blocks(then);
            int all = head + 1 + blocks(before);
            for (int k = 0; k <= all + 1; k++) {
                SealedHouse x = new SealedHouse();
                past.accept(x);
                Check.due("entries before", x.device(d, 4), before);
                int half = x.device(d, 6);
                Check.due("crash", x.crash(d, k), 1);
                int answer = call.applyAsInt(x);
                Check.due("cut behind " + k + " of " + all, answer == CRASHED ? 1 : 0,
                        k < all ? 1 : 0);
                Check.due("DOWN", x.device(d, 7), k < all ? 1 : 0);
                Check.due("half", x.device(d, 6), k > head ? 1 - half : half);
                Check.due("entries", x.device(d, 4), k > head ? then : before);
            }
        }

        private void hasTerms(int... lying) {
            for (int k = 0; k < lying.length; k++) {
                SealedHouse x = new SealedHouse();
                past.accept(x);
                x.crash(d, k);
                call.applyAsInt(x);
                Check.due("terms that lie there behind " + k, x.device(d, 5), lying[k]);
                Check.due("look", x.look(d), lying[k]);
                boolean head = k > blocks(then);
                Check.due("up", x.up(d), k < lying.length - 1 ? 1 : 0);
                Check.due("terms", x.device(d, 5), lying[head ? lying.length - 1 : 0]);
            }
        }
    }

    /** Device 0 has a session alone: IDENTITY and six entries. */
    private static void seven(SealedHouse x) {
        x.publish(1);
        x.begin(0, 1);
        x.list(0, 1);
    }

    private static void eight(SealedHouse x) {
        seven(x);
        x.post(0, 0);
        x.list(1, 3);
        x.deliver(0, 2);
    }

    private static void nine(SealedHouse x) {
        eight(x);
        x.post(0, 1);
    }

    /** "two halves of blocks of eight ENTRIES" */
    private static void blocksOfEight() {
        new Cut(0, StoreEdgesTest::seven, x -> x.list(0, 1)).hasWrites(7, 7);
        new Cut(0, StoreEdgesTest::seven, x -> x.post(0, 0)).hasWrites(7, 8);
        new Cut(0, StoreEdgesTest::eight, x -> x.list(0, 1)).hasWrites(8, 8);
        new Cut(0, StoreEdgesTest::eight, x -> x.post(0, 1)).hasWrites(8, 9);
        new Cut(0, StoreEdgesTest::nine, x -> x.list(0, 1)).hasWrites(9, 9);
        new Cut(0, x -> { }, x -> x.publish(0)).hasWrites(1, 6);
    }

    private static void mailed(SealedHouse x) {
        x.publish(0);
        for (int s = 1; s < 6; s++) {
            x.send(s, 0);
            Check.due("deliver", x.deliver(0, s - 1), 1);
        }
    }

    /** "WRITES are the blocks of ENTRIES, one after the other .. then the HEAD .. then each block" */
    private static void writesOneAfterTheOther() {
        // 28 entries of one term each lie there; then a PREKEY and four ONE-TIME keys are more
        Cut cut = new Cut(0, StoreEdgesTest::mailed, x -> x.publish(0));
        cut.hasWrites(28, 33);
        cut.hasTerms(28, 36, 44, 52, 60, 61, 61, 53, 45, 37, 33);
    }

    /** All that a device can have: it takes the attacker more than 512 calls to bring it there. */
    private static void aStoreThatIsFull() {
        SealedHouse x = published(1);
        for (int g = 0; g < 4; g++) {
            Check.due("list", x.list(g, 63), g);
            Check.due("list", g == 0 ? 3 : x.deliver(0, g), 3);
        }
        for (int p = 1; p < 6; p++) {
            boolean once = p == 3;
            if (p == 4) {
                x.publish(0);
            }
            Forge.begin(x, p, 0, once ? 1 : 0);
            leaveKeys(x, p, once);
            Check.due("an answer", x.send(0, p) >= 0 ? 1 : 0, 1);
            Forge.beginWith(x, 0, once ? 2 : 0);
            leaveKeys(x, p, once);
            giveKeys(x, p);
        }
        for (int g = 0; g < 4; g++) {
            Check.due("post", x.post(0, g) >= 0 ? 1 : 0, 1);
        }
        int entries = 15 + 10 * (6 + 8) + 4 * (1 + 10 * 9);
        int terms = 15 + 10 * (6 + 16) + 4 * (2 + 10 * 10);
        Check.all("keys, BASES, entries, terms", Check.answers(x.device(0, 2), x.device(0, 3),
                x.device(0, 4), x.device(0, 5)), 4, 4, entries, terms);
        int blocks = 65;
        cutBehind(x, 0, blocks, y -> y.list(0, 63));
        Check.all("both halves are full", Check.answers(x.device(0, 4), x.device(0, 5), x.look(0),
                x.take(0, 3, 2 * terms - 1), x.take(0, 3, 2 * terms)),
                entries, 2 * terms, 2 * terms, 1, NONE);
        x.up(0);
        cutBehind(x, 0, 2 * blocks, y -> y.list(0, 63));
        Check.all("the last block has seven LEFT keys", Check.answers(x.device(0, 4),
                x.device(0, 5)), entries, terms + 7);
        x.up(0);
        Check.due("crash", x.crash(0, 2 * blocks + 1), 1);
        Check.due("it has not more", x.list(0, 63) >= 0 ? 1 : 0, 1);
        Check.due("terms", x.device(0, 5), terms);
    }

    /** Device 0 takes indexes 5 and 9 of a session that was begun as p; register 0 has its chain. */
    private static void leaveKeys(SealedHouse x, int p, boolean once) {
        x.draw(1);
        Forge.turn(x, 1);
        Forge.copy(x, 0, Forge.CHAIN);
        for (int index : new int[] {5, 9}) {
            Forge.key(x, index);
            Forge.head(x, p, 0, index, 0);
            Forge.bears(x, once);
            Forge.letter(x);
            Forge.seal(x);
            Check.due("a letter", x.inject(0, Forge.MADE), 1);
        }
        Check.due("LEFT", x.session(0, p, 0, 3), 8);
    }

    /** Two keys of p for each group, and posts at indexes 5 and 9 of each. */
    private static void giveKeys(SealedHouse x, int p) {
        for (int i = 0; i < 8; i++) {
            int g = i / 2;
            int generation = i % 2 + 1;
            Forge.keyOf(x, 0, 10 + i);
            Forge.head(x, p, 0, 10 + i, 0);
            x.draw(Forge.CHAIN);
            x.draw(Forge.SIGNER);
            Forge.gift(x, g, generation, 0);
            Forge.seal(x);
            Check.due("a gift", x.inject(0, Forge.MADE), 2);
            for (int index : new int[] {5, 9}) {
                Forge.key(x, index);
                Forge.post(x, g, p, generation, index);
                Check.due("a post", x.inject(0, Forge.MADE), 1);
            }
            Check.due("LEFT", x.group(0, g, 40 + p), 8);
        }
    }

    // ---- cuts

    /** "cut behind k WRITES (0 .. 200): 1" */
    private static void cutsFromZeroToTwoHundred() {
        Twins t = Twins.published(1);
        for (int k : new int[] {Integer.MIN_VALUE, -1, 201, 202, Integer.MAX_VALUE}) {
            t.refused("k " + k, x -> x.crash(0, k), NONE);
        }
        t.refused("device -1", x -> x.crash(-1, 0), NONE);
        t.refused("device 6", x -> x.crash(6, 0), NONE);
        t.due("none is waiting", x -> x.publish(0), 6);
        t.due("k 200", x -> x.crash(0, 200), 1);
        t.due("it has not more", x -> x.publish(0), 7);
        t.due("k 0", x -> x.crash(0, 0), 1);
        t.due("none is made", x -> x.publish(0), CRASHED);
        t.due("terms", x -> x.device(0, 5), 7);
        t.due("the last device", x -> x.crash(5, 0), 1);
        t.end();
    }

    /** "if it has not more than k, all are made, the call is told, and nothing is cut any more" */
    private static void notMoreThanK() {
        Twins t = Twins.published(1);
        t.due("three WRITES", x -> x.crash(0, 3), 1);
        t.due("all are made", x -> x.publish(0), 6);
        t.due("not DOWN", x -> x.device(0, 7), 0);
        t.due("nothing is cut any more", x -> x.publish(0), 7);
        t.due("nothing is cut any more", x -> x.publish(0), 8);
        t.due("one less", x -> x.crash(0, 2), 1);
        t.due("cut", x -> x.publish(0), CRASHED);
        t.end();
    }

    /** "Of several told ahead of it the latest counts" */
    private static void theLatestCounts() {
        Twins t = Twins.published(2);
        t.due("crash", x -> x.crash(0, 0), 1);
        t.due("crash", x -> x.crash(0, 3), 1);
        t.due("the latter", x -> x.publish(0), 6);
        t.due("crash", x -> x.crash(1, 3), 1);
        t.due("crash", x -> x.crash(1, 0), 1);
        t.due("the latter", x -> x.publish(1), CRASHED);
        t.end();
    }

    /** "it waits through refused calls and up()" */
    private static void itWaitsThroughRefusedCalls() {
        Twins t = Twins.published(2);
        t.run(x -> x.draw(0));
        t.due("send", x -> x.send(1, 2), -5);
        t.due("send", x -> x.send(0, 1), 0);
        t.due("crash", x -> x.crash(0, 0), 1);
        t.refused("NONE", x -> x.begin(0, 0), NONE);
        t.refused("-5", x -> x.begin(0, 3), -5);
        t.refused("-5", x -> x.send(0, 3), -5);
        t.refused("-6", x -> x.list(0, 2), -6);
        t.refused("-6", x -> x.post(0, 0), -6);
        t.refused("-10", x -> x.inject(0, 0), -10);
        t.refused("-11", x -> x.deliver(0, 0), -11);
        t.refused("another k", x -> x.crash(0, 201), NONE);
        t.due("others go on", x -> x.publish(1), 6);
        t.due("a look is none of its calls", x -> x.look(0), 13);
        t.due("it waited", x -> x.list(0, 1), CRASHED);
        t.end();
    }

    private static void itWaitsThroughUp() {
        Twins t = Twins.published(1);
        t.due("crash", x -> x.crash(0, 0), 1);
        t.due("up", x -> x.up(0), 0);
        t.due("up", x -> x.up(0), 0);
        t.due("it waited", x -> x.publish(0), CRASHED);
        t.end();
    }

    /** "DOWN: it is." */
    private static void crashOfOneThatIsDown() {
        Twins t = Twins.published(1);
        t.due("crash", x -> x.crash(0, 0), 1);
        t.due("cut", x -> x.publish(0), CRASHED);
        t.refused("DOWN", x -> x.crash(0, 0), DOWN);
        t.refused("NONE comes ahead of it", x -> x.crash(0, 201), NONE);
        t.due("up", x -> x.up(0), 1);
        t.due("none is waiting", x -> x.publish(0), 6);
        t.end();
    }

    private static void aCutIsOverBehindACrash() {
        Twins t = Twins.published(1);
        for (int k = 0; k < 3; k++) {
            int writes = k;
            t.due("crash", x -> x.crash(0, writes), 1);
            t.due("cut", x -> x.publish(0), CRASHED);
            t.due("up", x -> x.up(0), 1);
            t.run(x -> Check.due("publish", x.publish(0) > 0 ? 1 : 0, 1));
        }
        t.end();
    }

    // ---- what is not told when it is cut

    /** Cut ahead of the HEAD (k 0), or behind it, with one WRITE less than all. */
    private static void cutBehind(SealedHouse x, int d, int k, ToIntFunction<SealedHouse> call) {
        Check.due("crash", x.crash(d, k), 1);
        Check.due("cut", call.applyAsInt(x), CRASHED);
        Check.due("DOWN", x.device(d, 7), 1);
    }

    /** "the DIRECTORY's change by publish" */
    private static void cutPublish() {
        for (int k = 0; k <= 2; k += 2) {
            SealedHouse x = published(1);
            x.take(0, 1, 0);
            cutBehind(x, 0, k, y -> y.publish(0));
            x.take(1, 1, 0);
            Check.due("place 0 is as before", x.same(0, 1), 1);
            Check.all("its keys", Check.answers(x.device(0, 0), x.device(0, 1)),
                    k == 0 ? 1 : 6, k == 0 ? 0 : 1);
            x.up(0);
            Check.due("begin by what is there", x.send(1, 0), 0);
            Check.due("deliver", x.deliver(0, 0), 1);
            Check.due("the numbers that it has", x.publish(0), k == 0 ? 6 : 7);
        }
    }

    /** "(a place of the DIRECTORY that a begin took stays NOTHING)" */
    private static void cutBegin() {
        for (int k = 0; k <= 2; k += 2) {
            SealedHouse x = published(1);
            cutBehind(x, 1, k, y -> y.begin(1, 0));
            Check.due("place 1 is NOTHING", x.take(0, 1, 1), NONE);
            Check.due("place 2 is not", x.take(0, 1, 2), 1);
            Check.due("a session", x.session(1, 0, 0, 0), k == 0 ? NONE : 0);
            x.up(1);
            Check.due("begin", x.begin(1, 0), k == 0 ? 1 : 2);
            Check.due("place 2 is NOTHING", x.take(0, 1, 2), NONE);
        }
    }

    /** "its wires are there, numbers of letters" */
    private static void cutSend() {
        for (int k = 0; k <= 2; k += 2) {
            SealedHouse x = published(1);
            cutBehind(x, 1, k, y -> y.send(1, 0));
            Check.all("no wire, no letter", Check.answers(x.count(0), x.count(1), x.letter(0),
                    x.derived(0), x.deliver(0, 0), x.take(0, 0, 0)), 0, 0, NONE, NONE, NONE, NONE);
            Check.due("place 1 is NOTHING", x.take(0, 1, 1), NONE);
            Check.due("N", x.session(1, 0, 0, 0), k == 0 ? NONE : 1);
            x.up(1);
            Check.due("the first wire", x.send(1, 0), 0);
            Check.due("the first letter", x.letter(0), 0);
            x.take(0, 0, 0);
            x.part(0, 0, 4);
            Check.due("its N", x.about(0, 4), k == 0 ? 0 : 1);
        }
    }

    private static void cutList() {
        for (int k = 0; k <= 2; k += 2) {
            SealedHouse x = new SealedHouse();
            cutBehind(x, 0, k, y -> y.list(0, 3));
            Check.due("no wire", x.count(0), 0);
            Check.due("VERSION", x.group(0, 0, 0), k == 0 ? 0 : 1);
            Check.due("MASK", x.group(0, 0, 1), k == 0 ? 0 : 3);
            x.up(0);
            Check.due("the first wire", x.list(0, 3), 0);
            Check.due("VERSION", x.group(0, 0, 0), k == 0 ? 1 : 2);
        }
    }

    private static void cutPost() {
        for (int k = 0; k <= 3; k += 3) {
            SealedHouse x = published(2);
            x.list(2, 7);
            int draws = x.count(2);
            // IDENTITY alone becomes 1 + 2 * 6 + 1 entries: two blocks, the HEAD, one block
            cutBehind(x, 2, k, y -> y.post(2, 2));
            Check.all("no wires, no letter", Check.answers(x.count(0), x.count(1)), 1, 0);
            Check.due("DRAWS", x.count(2) - draws, 2 + 2 * 2 + 1);
            Check.all("places that it took", Check.answers(x.take(0, 1, 1), x.take(0, 1, 6)),
                    NONE, NONE);
            Check.all("GENERATION, INDEX, GAVE", Check.answers(x.group(2, 2, 3), x.group(2, 2, 4),
                    x.group(2, 2, 5)), k == 0 ? 0 : 1, k == 0 ? 0 : 1, k == 0 ? 0 : 3);
            x.up(2);
            Check.due("two gifts again, or none", x.post(2, 2), k == 0 ? 3 : 1);
            Check.due("the first letter", x.letter(k == 0 ? 3 : 1), 0);
        }
    }

    /** "that something was taken" */
    private static void cutLetter() {
        for (int k = 0; k <= 3; k += 3) {
            SealedHouse x = published(2);
            x.send(0, 1);
            cutBehind(x, 1, k, y -> y.deliver(1, 0));
            for (int what = 0; what <= 3; what++) {
                Check.due("taken", x.taken(1, what), what == 3 ? 0 : NONE);
            }
            Check.due("ONE-TIME keys", x.device(1, 2), k == 0 ? 4 : 3);
            Check.due("NEXT", x.session(1, 0, 0, 2), k == 0 ? NONE : 1);
            x.up(1);
            Check.due("once more", x.deliver(1, 0), k == 0 ? 1 : -13);
            Check.due("taken", x.taken(1, 3), k == 0 ? 1 : 0);
        }
    }

    private static void cutGift() {
        for (int k = 0; k <= 3; k += 3) {
            SealedHouse x = published(2);
            x.list(0, 3);
            x.post(0, 0);
            cutBehind(x, 1, k, y -> y.deliver(1, 1));
            Check.due("keys", x.group(1, 0, 10), k == 0 ? 0 : 1);
            x.up(1);
            Check.due("once more", x.deliver(1, 1), k == 0 ? 2 : -13);
            Check.due("keys", x.group(1, 0, 10), 1);
        }
    }

    private static void cutListThatComes() {
        for (int k = 0; k <= 2; k += 2) {
            SealedHouse x = new SealedHouse();
            x.list(0, 3);
            cutBehind(x, 1, k, y -> y.deliver(1, 0));
            Check.due("VERSION", x.group(1, 0, 0), k == 0 ? 0 : 1);
            x.up(1);
            Check.due("once more", x.deliver(1, 0), k == 0 ? 3 : -16);
        }
    }

    /** "DRAWS (also those of calls that CRASHED)" */
    private static void cutCountsDraws() {
        SealedHouse x = published(1);
        int draws = x.count(2);
        cutBehind(x, 0, 0, y -> y.publish(0));
        Check.due("a PREKEY", x.count(2), draws + 1);
        cutBehind(x, 1, 0, y -> y.publish(1));
        Check.due("a PREKEY and four", x.count(2), draws + 6);
        cutBehind(x, 2, 0, y -> y.begin(2, 0));
        Check.due("e and r", x.count(2), draws + 8);
        cutBehind(x, 3, 0, y -> y.send(3, 0));
        Check.due("e, r and a letter", x.count(2), draws + 11);
    }

    // ---- up, look

    /** "Up again, what lies in the other half goes." */
    private static void upMakesTheOtherHalfEmpty() {
        SealedHouse x = published(1);
        cutBehind(x, 0, 1, y -> y.publish(0));
        deviceIs(x, 0, 6, 6 + 7, 1, 1);
        Check.due("up", x.up(0), 1);
        deviceIs(x, 0, 6, 6, 1, 0);
        cutBehind(x, 0, 2, y -> y.publish(0));
        deviceIs(x, 0, 7, 6 + 7, 0, 1);
        Check.due("up", x.up(0), 1);
        deviceIs(x, 0, 7, 7, 0, 0);
        Check.due("look", x.look(0), 7);
    }

    /** "d comes up again: 1; 0 if it was not DOWN" */
    private static void upOfOneThatIsNot() {
        Twins t = Twins.published(1);
        t.refused("device -1", x -> x.up(-1), NONE);
        t.refused("device 6", x -> x.up(6), NONE);
        t.refused("not DOWN", x -> x.up(0), 0);
        t.refused("not DOWN", x -> x.up(5), 0);
        t.due("crash", x -> x.crash(0, 1), 1);
        t.due("cut", x -> x.publish(0), CRASHED);
        t.refused("another one", x -> x.up(1), 0);
        t.due("up", x -> x.up(0), 1);
        t.refused("not DOWN any more", x -> x.up(0), 0);
        t.end();
    }

    /** "half 0 first, block by block, ENTRY by ENTRY" */
    private static void lookInOrder() {
        SealedHouse x = published(1);
        cutBehind(x, 0, 1, y -> y.publish(0));
        Check.due("seven in half 0, six in half 1", x.look(0), 13);
        x.take(0, 3, 0);
        x.take(1, 3, 7);
        Check.due("IDENTITY in both", x.same(0, 1), 1);
        x.take(0, 3, 1);
        x.take(1, 3, 2);
        x.take(2, 3, 8);
        Check.all("half 0 has one more PREKEY, ahead of the one before", Check.answers(
                x.same(0, 1), x.same(0, 2), x.same(1, 2)), 0, 0, 1);
        for (int i = 0; i < 4; i++) {
            x.take(3, 3, 3 + i);
            x.take(4, 3, 9 + i);
            Check.due("the same ONE-TIME keys", x.same(3, 4), 1);
        }
        SealedHouse y = new SealedHouse();
        cutBehind(y, 0, 1, z -> z.publish(0));
        Check.due("IDENTITY in half 0, six in half 1", y.look(0), 7);
        y.take(0, 3, 0);
        y.take(1, 3, 1);
        y.take(2, 3, 2);
        Check.all("IDENTITY, IDENTITY, PREKEY", Check.answers(y.same(0, 1), y.same(0, 2)), 1, 0);
    }

    /** "all terms of all ENTRIES that lie in its blocks, DOWN or not" */
    private static void lookIntoOneThatIsDown() {
        Twins t = Twins.published(2);
        t.refused("device -1", x -> x.look(-1), NONE);
        t.refused("device 6", x -> x.look(6), NONE);
        t.due("send", x -> x.send(0, 1), 0);
        t.due("crash", x -> x.crash(1, 3), 1);
        t.due("cut", x -> x.deliver(1, 0), CRASHED);
        t.due("DOWN", x -> x.device(1, 7), 1);
        t.due("ten now, six before", x -> x.look(1), 16);
        t.due("derived by what lay there before", x -> x.derived(0), 1);
        t.refused("no more than that", x -> x.take(0, 3, 16), NONE);
        t.due("the last one", x -> x.take(0, 3, 15), 1);
        t.end();
        Twins u = Twins.published(2);
        u.due("send", x -> x.send(0, 1), 0);
        u.due("crash", x -> x.crash(1, 3), 1);
        u.due("cut", x -> x.deliver(1, 0), CRASHED);
        u.due("up", x -> x.up(1), 1);
        u.due("ten now", x -> x.look(1), 10);
        u.due("what lay there before went", x -> x.derived(0), 0);
        u.end();
    }
}
