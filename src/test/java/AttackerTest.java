/** Promises 11 to 23: what the attacker does, and what can be derived. */
public final class AttackerTest {
    private static final int NONE = SealedHouse.NONE;
    private static final int[] NO_REGISTER = {Integer.MIN_VALUE, -2, 32, Integer.MAX_VALUE};

    private AttackerTest() {
    }

    public static void main(String[] args) {
        draw();
        take();
        part();
        unseal();
        makeMix();
        makeOthers();
        seal();
        alter();
        swap();
        plant();
        look();
        lookIntoLeftKeys();
        same();
        about();
        goodRows();
        goodPlaces();
        derivedByChains();
        derivedByPrekeys();
        derivedByTerms();
        derivedPosts();
        bodies();
        Check.end();
    }

    private static void due(String what, int got, int want) {
        Check.due(what, got, want);
    }

    private static SealedHouse published(int devices) {
        SealedHouse x = new SealedHouse();
        for (int d = 0; d < devices; d++) {
            x.publish(d);
        }
        return x;
    }

    /** Register r gets the ROW 1 of device 0 with another KIND, these numbers, and no terms. */
    private static void row(SealedHouse x, int r, int kind, int... numbers) {
        due("take", x.take(r, 1, 0), 1);
        due("part", x.part(r, r, 5), 1);
        due("kind", x.alter(r, r, 4, kind), 1);
        for (int i = 0; i < 4; i++) {
            due("number", x.alter(r, r, i, numbers[i]), 1);
            due("term", x.swap(r, r, i, -1), 1);
        }
    }

    private static void draw() {
        SealedHouse x = new SealedHouse();
        due("draw", x.draw(-1), NONE);
        for (int r : NO_REGISTER) {
            due("draw", x.draw(r), NONE);
        }
        due("draws", x.count(2), 6);
        due("draw", x.draw(0), 1);
        due("draw", x.draw(31), 1);
        due("draws", x.count(2), 8);
        due("SECRET", x.about(31, 0), 1);
        due("another one", x.same(0, 31), 0);
    }

    private static void take() {
        SealedHouse x = published(2);
        x.send(0, 1);
        due("wire", x.take(0, 0, 0), 1);
        due("SEALED", x.about(0, 0), 5);
        due("no wire", x.take(1, 0, 1), NONE);
        due("no wire", x.take(1, 0, -1), NONE);
        due("place", x.take(0, 1, 0), 1);
        due("SIGNED", x.about(0, 0), 6);
        due("place", x.take(0, 1, 9), 1);
        due("ROW", x.about(0, 0), 7);
        due("a one-time key that went", x.take(1, 1, 6), NONE);
        due("NOTHING", x.take(1, 1, 10), NONE);
        due("no place", x.take(1, 1, 30), NONE);
        due("no place", x.take(1, 1, -1), NONE);
        due("identity", x.take(0, 2, 5), 1);
        due("PUBLIC", x.about(0, 0), 2);
        due("no device", x.take(1, 2, 6), NONE);
        due("no device", x.take(1, 2, -1), NONE);
        due("no look yet", x.take(1, 3, 0), NONE);
        x.look(2);
        due("look", x.take(0, 3, 0), 1);
        due("SECRET", x.about(0, 0), 1);
        due("no more", x.take(1, 3, 1), NONE);
        due("no more", x.take(1, 3, -1), NONE);
        x.look(1);
        due("the latest look", x.take(2, 3, 1), 1);
        x.look(3);
        due("and no longer one before it", x.take(1, 3, 1), NONE);
        due("no such kind", x.take(1, 4, 0), NONE);
        due("no such kind", x.take(1, -1, 0), NONE);
        for (int r : NO_REGISTER) {
            due("no register", x.take(r, 2, 0), NONE);
        }
        due("register 1 stayed empty", x.about(1, 0), NONE);
    }

    private static void part() {
        SealedHouse x = published(2);
        x.send(0, 1);
        x.take(0, 0, 0);
        for (int what = -1; what <= 6; what++) {
            due("of a SEALED", x.part(1, 0, what), what == 4 ? 1 : NONE);
        }
        for (int what = -1; what <= 6; what++) {
            due("of a ROW", x.part(2, 1, what), what >= 0 && what <= 3 ? 1 : NONE);
        }
        x.take(0, 1, 0);
        for (int what = -1; what <= 6; what++) {
            due("of a SIGNED", x.part(1, 0, what), what == 5 ? 1 : NONE);
        }
        due("term 0", x.part(2, 1, 0), 1);
        due("NOTHING", x.part(2, 1, 1), NONE);
        due("of a PUBLIC", x.part(3, 2, 0), NONE);
        due("of an empty one", x.part(3, 9, 0), NONE);
        for (int r : NO_REGISTER) {
            due("no register", x.part(r, 1, 0), NONE);
            due("no register", x.part(3, r, 0), NONE);
        }
        due("stayed empty", x.about(3, 0), NONE);
        due("into itself", x.part(0, 0, 5), 1);
        due("the row", x.same(0, 1), 1);
    }

    private static void unseal() {
        SealedHouse x = new SealedHouse();
        for (int r = 0; r < 3; r++) {
            x.draw(r);
        }
        x.seal(3, 0, 1, 2);
        due("with the key", x.unseal(4, 3, 0), 1);
        due("the body", x.same(4, 2), 1);
        due("with another one", x.unseal(5, 3, 1), 0);
        due("stayed empty", x.about(5, 0), NONE);
        due("no SEALED", x.unseal(5, 0, 0), NONE);
        due("empty", x.unseal(5, 9, 0), NONE);
        due("no key", x.unseal(5, 3, 9), NONE);
        for (int r : NO_REGISTER) {
            due("no register", x.unseal(r, 3, 0), NONE);
            due("no register", x.unseal(r, 3, 1), NONE);
            due("no register", x.unseal(5, r, 0), NONE);
            due("no register", x.unseal(5, 3, r), NONE);
        }
    }

    private static void makeMix() {
        SealedHouse x = new SealedHouse();
        x.draw(0);
        x.draw(1);
        for (int n = 0; n <= 9; n++) {
            due("MIX", x.make(2 + n, n, 0, 1), 1);
            Check.all("MIX", Check.answers(x.about(2 + n, 0), x.about(2 + n, 1)), 4, n);
            for (int m = 0; m < n; m++) {
                due("others", x.same(2 + n, 2 + m), 0);
            }
        }
        due("with NOTHING", x.make(12, 6, 0, -1), 1);
        due("another one", x.same(12, 8), 0);
        due("the other way round", x.make(13, 6, 1, 0), 1);
        due("another one", x.same(13, 8), 0);
        due("again", x.make(14, 6, 0, 1), 1);
        due("the same", x.same(14, 8), 1);
        due("empty", x.make(15, 6, 20, 1), NONE);
        due("empty", x.make(15, 6, 0, 20), NONE);
        due("y -2", x.make(15, 6, 0, -2), NONE);
        due("x -1", x.make(15, 6, -1, 0), NONE);
        for (int r : NO_REGISTER) {
            due("no register", x.make(r, 6, 0, 1), NONE);
            due("no register", x.make(15, 6, r, 1), NONE);
            due("no register", x.make(15, 6, 0, r), NONE);
        }
        due("stayed empty", x.about(15, 0), NONE);
    }

    private static void makeOthers() {
        SealedHouse x = new SealedHouse();
        x.draw(0);
        x.draw(1);
        due("PUBLIC", x.make(2, 10, 0, -1), 1);
        due("PUBLIC", x.make(3, 10, 1, 77), 1);
        Check.all("PUBLIC", Check.answers(x.about(2, 0), x.same(2, 3)), 2, 0);
        due("SHARED", x.make(4, 11, 0, 3), 1);
        due("SHARED", x.make(5, 11, 1, 2), 1);
        Check.all("SHARED", Check.answers(x.about(4, 0), x.same(4, 5)), 3, 1);
        due("of one", x.make(6, 11, 0, 2), 1);
        Check.all("SHARED", Check.answers(x.about(6, 0), x.same(4, 6)), 3, 0);
        due("SIGNED", x.make(7, 12, 0, 1), 1);
        due("SIGNED", x.make(8, 12, 1, 0), 1);
        Check.all("SIGNED", Check.answers(x.about(7, 0), x.same(7, 8)), 6, 0);
        x.part(9, 7, 5);
        due("its m", x.same(9, 1), 1);
        for (int what = 10; what <= 12; what++) {
            due("of a PUBLIC", x.make(10, what, 2, 3), NONE);
            due("of an empty one", x.make(10, what, 20, 3), NONE);
        }
        due("y is no PUBLIC", x.make(10, 11, 0, 1), NONE);
        due("y is empty", x.make(10, 11, 0, 20), NONE);
        due("y is NOTHING", x.make(10, 11, 0, -1), NONE);
        due("y is empty", x.make(10, 12, 0, 20), NONE);
        due("y is NOTHING", x.make(10, 12, 0, -1), NONE);
        due("no such kind", x.make(10, 13, 0, 1), NONE);
        due("no such kind", x.make(10, -1, 0, 1), NONE);
        due("stayed empty", x.about(10, 0), NONE);
    }

    private static void seal() {
        SealedHouse x = new SealedHouse();
        for (int r = 0; r < 3; r++) {
            x.draw(r);
        }
        due("seal", x.seal(3, 0, 1, 2), 1);
        due("SEALED", x.about(3, 0), 5);
        x.part(4, 3, 4);
        due("head", x.same(4, 1), 1);
        due("alike", x.seal(5, 0, 1, 2), 1);
        due("the same", x.same(3, 5), 1);
        due("another body", x.seal(5, 0, 1, 1), 1);
        due("another one", x.same(3, 5), 0);
        due("empty", x.seal(6, 9, 1, 2), NONE);
        due("empty", x.seal(6, 0, 9, 2), NONE);
        due("empty", x.seal(6, 0, 1, 9), NONE);
        for (int r : NO_REGISTER) {
            due("no register", x.seal(r, 0, 1, 2), NONE);
            due("no register", x.seal(6, r, 1, 2), NONE);
            due("no register", x.seal(6, 0, r, 2), NONE);
            due("no register", x.seal(6, 0, 1, r), NONE);
        }
        due("NOTHING is no register", x.seal(6, 0, 1, -1), NONE);
    }

    private static void alter() {
        SealedHouse x = published(1);
        x.take(0, 1, 1);
        for (int k = 0; k < 4; k++) {
            due("alter", x.alter(1, 0, k, Integer.MIN_VALUE + k), 1);
            for (int i = 0; i < 4; i++) {
                int old = i == 1 ? 2 : 0;
                due("numbers", x.about(1, 2 + i), i == k ? Integer.MIN_VALUE + k : old);
            }
            due("kind", x.about(1, 1), 2);
        }
        for (int v = -1; v <= 9; v++) {
            due("kind", x.alter(1, 0, 4, v), v >= 1 && v <= 7 ? 1 : NONE);
        }
        due("kind", x.about(1, 1), 7);
        due("terms stay", x.part(2, 1, 0), 1);
        due("back", x.alter(1, 1, 4, 2), 1);
        due("the same", x.same(0, 1), 1);
        due("no number", x.alter(1, 0, 5, 1), NONE);
        due("no number", x.alter(1, 0, -1, 1), NONE);
        due("no ROW", x.alter(1, 2, 0, 1), NONE);
        due("empty", x.alter(1, 9, 0, 1), NONE);
        for (int r : NO_REGISTER) {
            due("no register", x.alter(r, 0, 0, 1), NONE);
            due("no register", x.alter(1, r, 0, 1), NONE);
        }
    }

    private static void swap() {
        SealedHouse x = published(1);
        x.take(0, 1, 1);
        x.draw(5);
        for (int k = 0; k < 4; k++) {
            due("swap", x.swap(1, 0, k, 5), 1);
            due("part", x.part(2, 1, k), 1);
            due("the term", x.same(2, 5), 1);
            due("first", x.part(2, 1, 0), 1);
            due("first", x.same(2, 5), k == 0 ? 1 : 0);
            due("numbers stay", x.about(1, 3), 2);
        }
        due("NOTHING", x.swap(1, 0, 0, -1), 1);
        due("NOTHING", x.part(2, 1, 0), NONE);
        due("no term", x.swap(1, 0, 4, 5), NONE);
        due("no term", x.swap(1, 0, -1, 5), NONE);
        due("y empty", x.swap(1, 0, 0, 9), NONE);
        due("no ROW", x.swap(1, 5, 0, 5), NONE);
        due("empty", x.swap(1, 9, 0, 5), NONE);
        for (int r : NO_REGISTER) {
            due("no register", x.swap(r, 0, 0, 5), NONE);
            due("no register", x.swap(1, r, 0, 5), NONE);
            due("no register", x.swap(1, 0, 0, r), NONE);
        }
    }

    private static void plant() {
        SealedHouse x = published(1);
        x.draw(0);
        due("plant", x.plant(5, 4, 0), 1);
        due("take", x.take(1, 1, 29), 1);
        due("the same", x.same(0, 1), 1);
        due("NOTHING", x.plant(5, 4, -1), 1);
        due("take", x.take(1, 1, 29), NONE);
        due("empty", x.plant(0, 0, 9), NONE);
        due("no device", x.plant(-1, 0, 0), NONE);
        due("no device", x.plant(6, 0, 0), NONE);
        due("no place", x.plant(0, -1, 0), NONE);
        due("no place", x.plant(0, 5, 0), NONE);
        for (int r : NO_REGISTER) {
            due("no register", x.plant(0, 0, r), NONE);
        }
        due("begin", x.begin(1, 0), 1);
        due("what was there is there", x.plant(0, 0, -1), 1);
        due("can't begin", x.begin(1, 0), -5);
    }

    private static void look() {
        SealedHouse x = published(3);
        due("no device", x.look(-1), NONE);
        due("no device", x.look(6), NONE);
        due("identity alone", x.look(5), 1);
        x.take(0, 3, 0);
        x.make(0, 10, 0, -1);
        x.take(1, 2, 5);
        due("it is the identity", x.same(0, 1), 1);
        x.send(0, 1);
        due("look", x.look(0), 13);
        int[] kinds = {1, 1, 1, 1, 1, 1, 2, 4, 1, 2, 4, 2, 2};
        int[] mixes = {0, 0, 0, 0, 0, 0, 0, 4, 0, 0, 7, 0, 0};
        for (int i = 0; i < kinds.length; i++) {
            due("take", x.take(0, 3, i), 1);
            Check.all("entry " + i, Check.answers(x.about(0, 0), x.about(0, 1)), kinds[i], mixes[i]);
        }
        due("no more", x.take(0, 3, 13), NONE);
        x.list(0, 7);
        x.post(0, 0);
        x.deliver(1, 0);
        x.deliver(1, 2);
        due("look", x.look(1), 1 + 1 + 3 + 5 + 2);
        Check.all("the key that was given", Check.answers(x.take(0, 3, 10), x.about(0, 0),
                x.take(1, 3, 11), x.about(1, 0)), 1, 1, 1, 2);
        due("look", x.look(0), 6 + 7 + 7 + 2);
        Check.all("the group's key", Check.answers(x.take(2, 3, 20), x.about(2, 0), x.about(2, 1),
                x.take(3, 3, 21), x.about(3, 0)), 1, 4, 7, 1, 1);
        x.make(0, 7, 0, -1);
        due("one step on", x.same(0, 2), 1);
        x.make(3, 10, 3, -1);
        due("PUBLIC of the SIGNER", x.same(1, 3), 1);
    }

    private static void lookIntoLeftKeys() {
        SealedHouse x = published(2);
        x.list(0, 3);
        x.post(0, 0);
        x.post(0, 0);
        x.post(0, 0);
        x.send(0, 1);
        x.deliver(1, 0);
        x.deliver(1, 1);
        x.send(0, 1);
        due("one is left in the session", x.deliver(1, 6), 1);
        due("two are left in the group", x.deliver(1, 4), 1);
        due("entries", x.device(1, 4), 5 + 5 + 1 + 1 + 2);
        due("look", x.look(1), 5 + 5 + 2 + 2 + 2);
        Check.all("a key and its PUBLIC", Check.answers(x.take(0, 3, 10), x.about(0, 1),
                x.take(0, 3, 11), x.about(0, 0)), 1, 6, 1, 2);
        Check.all("the keys alone", Check.answers(x.take(0, 3, 14), x.about(0, 1),
                x.take(0, 3, 15), x.about(0, 1)), 1, 6, 1, 6);
        Check.all("letters left", Check.answers(x.derived(0), x.derived(1), x.derived(2),
                x.derived(3), x.derived(4)), 1, 1, 0, 1, 0);
    }

    private static void same() {
        SealedHouse x = new SealedHouse();
        x.draw(0);
        x.draw(1);
        Check.all("same", Check.answers(x.same(0, 0), x.same(0, 1), x.same(1, 0)), 1, 0, 0);
        due("empty", x.same(0, 2), NONE);
        due("empty", x.same(2, 0), NONE);
        due("empty", x.same(2, 2), NONE);
        for (int r : NO_REGISTER) {
            due("no register", x.same(0, r), NONE);
            due("no register", x.same(r, 0), NONE);
        }
    }

    private static void about() {
        SealedHouse x = published(1);
        x.take(0, 1, 0);
        x.part(1, 0, 5);
        x.part(2, 1, 0);
        x.draw(3);
        x.make(4, 11, 3, 2);
        x.make(5, 9, 3, 2);
        x.seal(6, 3, 3, 3);
        int[] registers = {3, 2, 4, 5, 6, 0, 1};
        for (int i = 0; i < registers.length; i++) {
            int r = registers[i];
            due("kind", x.about(r, 0), i + 1);
            due("n", x.about(r, 1), r == 5 ? 9 : r == 1 ? 1 : 0);
            for (int what = 2; what <= 5; what++) {
                due("numbers", x.about(r, what), r == 1 && what == 3 ? 1 : 0);
            }
            due("no such", x.about(r, 6), NONE);
            due("no such", x.about(r, -1), NONE);
        }
        due("empty", x.about(9, 0), NONE);
        for (int r : NO_REGISTER) {
            due("no register", x.about(r, 0), NONE);
        }
    }

    /** Each number and term of the rows that devices take, at its edges. */
    private static void goodRows() {
        SealedHouse x = published(1);
        x.draw(0);
        x.make(1, 10, 0, -1);
        row(x, 2, 3, 1, 0, 0, 0);
        due("no terms", takeHead(x, 2), -10);
        x.swap(2, 2, 0, 1);
        due("one term", takeHead(x, 2), -10);
        x.swap(2, 2, 1, 1);
        due("good", takeHead(x, 2), -12);
        int[][] bad = {{-1, 6}, {-1, 6}, {-1, 10_000}, {-1, 10_000}};
        int[][] edge = {{1, 5}, {0, 0}, {0, 9_999}, {0, 9_999}};
        for (int k = 0; k < 4; k++) {
            for (int v : bad[k]) {
                x.alter(3, 2, k, v);
                due("bad number " + k, takeHead(x, 3), -10);
            }
            for (int v : edge[k]) {
                x.alter(3, 2, k, v);
                due("good number " + k, takeHead(x, 3), -12);
            }
        }
        x.alter(3, 2, 0, 0);
        due("from is d", takeHead(x, 3), -11);
        x.alter(3, 2, 1, 1);
        due("to is not d", takeHead(x, 3), -11);
        x.swap(3, 2, 3, 1);
        due("ONCE without PREKEY", takeHead(x, 3), -10);
        x.swap(3, 3, 2, 1);
        due("both", takeHead(x, 3), -12);
        x.swap(4, 3, 3, 0);
        due("ONCE is no PUBLIC", takeHead(x, 4), -10);
        x.swap(4, 3, 2, 0);
        due("PREKEY is no PUBLIC", takeHead(x, 4), -10);
        for (int k = 0; k < 2; k++) {
            x.swap(4, 3, k, 0);
            due("BASE, KEY is no PUBLIC", takeHead(x, 4), -10);
        }
        goodLists(x);
        goodPosts(x);
    }

    private static int takeHead(SealedHouse x, int head) {
        x.seal(31, head, head, head);
        return x.inject(0, 31);
    }

    private static void goodLists(SealedHouse x) {
        row(x, 2, 6, 1, 1, 3, 0);
        due("signed by another", takeSigned(x, 2), -16);
        int[][] bad = {{-1, 4}, {0, Integer.MIN_VALUE}, {-1, 64}, {1, -1}};
        for (int k = 0; k < 4; k++) {
            for (int v : bad[k]) {
                x.alter(3, 2, k, v);
                due("bad number " + k, takeSigned(x, 3), -10);
            }
            x.swap(3, 2, k, 0);
            due("a term", takeSigned(x, 3), -10);
        }
        x.look(1);
        x.take(5, 3, 0);
        int[][] good = {{1, 63}, {5, 2}, {1, 1}, {5, 67}, {5, 0}, {5, 3}, {5, 3}};
        int[] answers = {3, -16, -16, -10, -16, 3, -16};
        for (int i = 0; i < good.length; i++) {
            row(x, 2, 6, 1, good[i][0], good[i][1], 0);
            x.make(3, 12, 5, 2);
            due("list " + i, x.inject(0, 3), answers[i]);
        }
        Check.all("group", Check.answers(x.group(0, 1, 0), x.group(0, 1, 1), x.group(0, 1, 2)),
                5, 3, 60);
        row(x, 2, 6, 1, Integer.MAX_VALUE, 7, 0);
        x.make(3, 12, 5, 2);
        due("one that is GONE", x.inject(0, 3), -16);
        row(x, 2, 6, 1, Integer.MAX_VALUE, 3, 0);
        x.make(3, 12, 5, 2);
        due("the last version", x.inject(0, 3), 3);
        row(x, 2, 6, 2, 1, 5, 0);
        x.make(3, 12, 5, 2);
        due("not this group's owner", x.inject(0, 3), -16);
    }

    private static int takeSigned(SealedHouse x, int text) {
        x.make(31, 12, 0, text);
        return x.inject(0, 31);
    }

    private static void goodPosts(SealedHouse x) {
        row(x, 2, 7, 1, 1, 1, 0);
        due("no key", takePost(x, 2), -17);
        x.alter(3, 2, 1, 0);
        due("its own", takePost(x, 3), -11);
        int[][] bad = {{-1, 4}, {-1, 6}, {0, -1}, {-1, 10_000}};
        for (int k = 0; k < 4; k++) {
            for (int v : bad[k]) {
                x.alter(3, 2, k, v);
                due("bad number " + k, takePost(x, 3), -10);
            }
            x.swap(3, 2, k, 0);
            due("a term", takePost(x, 3), -10);
        }
        x.alter(3, 2, 3, 9_999);
        due("the last index", takePost(x, 3), -17);
    }

    private static int takePost(SealedHouse x, int head) {
        x.seal(31, head, head, head);
        x.make(31, 12, 0, 31);
        return x.inject(0, 31);
    }

    /** Rows 1 and 2, by what can be begun with them. */
    private static void goodPlaces() {
        SealedHouse x = published(1);
        x.look(0);
        x.take(0, 3, 0);
        x.draw(1);
        x.make(2, 10, 1, -1);
        row(x, 3, 1, 0, 77, 0, 0);
        due("no PUBLIC", beginWith(x, 3), -5);
        x.swap(3, 3, 0, 2);
        due("good", beginWith(x, 3), 1);
        int[][] bad = {{-1, 1, 6}, {}, {1, -1}, {1, -1}};
        for (int k = 0; k < 4; k++) {
            for (int v : bad[k]) {
                x.alter(4, 3, k, v);
                due("bad number " + k, beginWith(x, 4), -5);
            }
        }
        x.alter(4, 3, 1, Integer.MIN_VALUE);
        due("any number", beginWith(x, 4), 2);
        for (int k = 1; k < 4; k++) {
            x.swap(4, 3, k, 2);
            due("a term", beginWith(x, 4), -5);
        }
        x.swap(4, 3, 0, 1);
        due("no PUBLIC", beginWith(x, 4), -5);
        x.alter(4, 3, 4, 2);
        due("ROW 2", beginWith(x, 4), -5);
        x.make(5, 12, 1, 3);
        x.plant(0, 0, 5);
        due("signed by another", x.begin(1, 0), -5);
        x.plant(0, 0, 3);
        due("not signed", x.begin(1, 0), -5);
    }

    private static int beginWith(SealedHouse x, int row) {
        x.make(31, 12, 0, row);
        x.plant(0, 0, 31);
        return x.begin(1, 0);
    }

    private static void derivedByChains() {
        SealedHouse x = published(2);
        due("no letter", x.derived(0), NONE);
        due("no letter", x.derived(-1), NONE);
        x.send(0, 1);
        due("derived", x.derived(0), 0);
        due("no letter", x.derived(1), NONE);
        x.look(0);
        due("its key is not there any more", x.derived(0), 0);
        x.send(0, 1);
        due("but the next one's", x.derived(1), 1);
        x.deliver(1, 0);
        x.deliver(1, 1);
        x.send(1, 0);
        due("with MINE of 0 and ROOT", x.derived(2), 1);
        x.deliver(0, 2);
        x.send(0, 1);
        due("ROOT is derived, but no new secret", x.derived(3), 0);
    }

    private static void derivedByPrekeys() {
        SealedHouse x = published(2);
        for (int i = 1; i < 5; i++) {
            x.plant(1, i, -1);
        }
        x.send(0, 1);
        x.deliver(1, 0);
        due("derived", x.derived(0), 0);
        x.look(1);
        due("without a one-time key", x.derived(0), 1);
        SealedHouse y = published(2);
        y.send(0, 1);
        y.deliver(1, 0);
        y.look(1);
        y.look(0);
        due("with a one-time key", y.derived(0), 0);
        SealedHouse z = published(2);
        z.send(0, 1);
        z.look(1);
        due("with a one-time key that is there", z.derived(0), 1);
    }

    private static void derivedByTerms() {
        SealedHouse x = published(2);
        x.send(0, 1);
        x.take(0, 0, 0);
        x.part(1, 0, 4);
        x.look(1);
        // what the attacker is to derive, it can make as well
        x.take(2, 3, 1);
        x.take(3, 2, 0);
        x.make(4, 11, 2, 3);
        x.take(5, 3, 0);
        x.part(6, 1, 0);
        x.make(7, 11, 5, 6);
        x.make(4, 0, 4, 7);
        x.make(7, 11, 2, 6);
        x.make(4, 1, 4, 7);
        x.take(8, 3, 2);
        x.make(7, 11, 8, 6);
        x.make(4, 2, 4, 7);
        x.part(9, 1, 1);
        x.make(7, 11, 2, 9);
        x.make(4, 5, 4, 7);
        x.make(4, 6, 4, -1);
        due("unseal", x.unseal(10, 0, 4), 1);
        Check.all("ROW 4", Check.answers(x.about(10, 1), x.part(10, 10, 0), x.about(10, 0)), 4, 1, 1);
        due("derived", x.derived(0), 1);
    }

    private static void derivedPosts() {
        SealedHouse x = published(3);
        x.list(0, 7);
        due("post", x.post(0, 0), 3);
        x.deliver(1, 1);
        due("derived", x.derived(0), 0);
        x.look(1);
        due("by the gift", x.derived(0), 1);
        x.post(0, 0);
        due("and the next one", x.derived(1), 1);
        due("2 is GONE", x.list(0, 3), 5);
        due("post", x.post(0, 0), 7);
        due("the gift goes by a chain that is derived", x.derived(2), 1);
        SealedHouse y = published(3);
        y.list(0, 7);
        y.post(0, 0);
        y.deliver(2, 2);
        y.look(2);
        due("by the gift", y.derived(0), 1);
        y.list(0, 3);
        due("post", y.post(0, 0), 6);
        due("2 has nothing of that", y.derived(1), 0);
    }

    /** What a looked into device may say, seen by the one that takes it. */
    private static void bodies() {
        SealedHouse x = published(2);
        x.send(0, 1);
        x.deliver(1, 0);
        x.look(0);
        x.take(0, 3, 10);
        x.take(1, 0, 0);
        x.part(1, 1, 4);
        x.make(2, 6, 0, -1);
        x.alter(3, 1, 2, 1);
        x.draw(4);
        x.make(5, 10, 4, -1);
        due("no ROW", bodyOf(x, 4), -15);
        row(x, 6, 4, 0, 0, 0, 0);
        due("ROW 4 with NOTHING", bodyOf(x, 6), -15);
        x.swap(6, 6, 0, 4);
        for (int k = 0; k < 4; k++) {
            x.alter(7, 6, k, 1);
            due("a number", bodyOf(x, 7), -15);
            if (k > 0) {
                x.swap(7, 6, k, 4);
                due("a term", bodyOf(x, 7), -15);
            }
        }
        row(x, 8, 5, 0, 1, 9_999, 0);
        x.swap(8, 8, 0, 5);
        due("no PUBLIC", bodyOf(x, 8), -15);
        x.swap(8, 8, 1, 5);
        int[][] bad = {{-1, 4}, {0, -1}, {-1, 10_000}, {1, -1}};
        for (int k = 0; k < 4; k++) {
            for (int v : bad[k]) {
                x.alter(7, 8, k, v);
                due("bad number " + k, bodyOf(x, 7), -15);
            }
            x.swap(7, 8, k, k < 2 ? k == 0 ? -1 : 4 : 5);
            due("bad term " + k, bodyOf(x, 7), -15);
        }
        due("nothing came of all that", x.session(1, 0, 0, 2), 1);
        due("a gift", bodyOf(x, 8), 2);
        Check.all("given", Check.answers(x.group(1, 0, 10), x.group(1, 0, 20), x.group(1, 0, 30)),
                1, 1, 9_999);
        due("the same key again", bodyOf(x, 8), -13);
        x.make(0, 7, 0, -1);
        x.make(2, 6, 0, -1);
        x.alter(3, 3, 2, 2);
        x.alter(8, 8, 2, 0);
        due("a gift of the same generation", bodyOf(x, 8), 2);
        Check.all("given", Check.answers(x.group(1, 0, 10), x.group(1, 0, 30)), 1, 9_999);
        x.make(0, 7, 0, -1);
        due("the key before", bodyOf(x, 6), -13);
        x.alter(3, 3, 2, 3);
        due("another key", bodyOf(x, 6), -14);
        x.make(2, 6, 0, -1);
        due("a letter", bodyOf(x, 6), 1);
        Check.all("taken", Check.answers(x.taken(1, 0), x.taken(1, 1), x.taken(1, 2), x.taken(1, 3)),
                NONE, 0, NONE, 2);
    }

    private static int bodyOf(SealedHouse x, int body) {
        x.seal(31, 2, 3, body);
        return x.inject(1, 31);
    }
}
