/** Promises 11 to 32, argument by argument: the last that is allowed, the first that is not. */
public final class CallEdgesTest {
    private static final int NONE = SealedHouse.NONE;
    private static final int MIN = Integer.MIN_VALUE;
    private static final int MAX = Integer.MAX_VALUE;
    private static final int[] NO_DEVICES = {MIN, -1, 6, MAX};
    private static final int[] NO_REGISTERS = {MIN, -2, -1, 32, MAX};

    private CallEdgesTest() {
    }

    public static void main(String[] args) {
        registersAreEmptyAtFirst();
        draw();
        takeWires();
        takePlaces();
        takeIdentities();
        takeTheLatestLook();
        takeNothingElse();
        part();
        unseal();
        makeMix();
        makePublic();
        makeShared();
        makeSigned();
        seal();
        alterNumbers();
        alterKind();
        swap();
        same();
        about();
        derived();
        letter();
        takenWithoutAny();
        takenLast();
        device();
        session();
        group();
        groupKeysOfItself();
        count();
        forgedIsNoneOfTheTrueOnes();
        forged();
        forgedToOneLookedInto();
        doubled();
        doubledToOneLookedInto();
        leaked();
        Check.end();
    }

    /** Register 0 a SECRET, 1 its PUBLIC, 2 SHARED, 3 MIX 9, 4 SEALED, 5 SIGNED, 6 ROW 1; 7 of no use. */
    private static Twins kinds() {
        Twins t = Twins.published(2);
        t.run(x -> {
            x.draw(0);
            x.make(1, 10, 0, -1);
            x.make(2, 11, 0, 1);
            x.make(3, 9, 0, 1);
            x.seal(4, 0, 1, 2);
            x.take(5, 1, 0);
            x.part(6, 5, 5);
            x.draw(7);
            x.draw(31);
        });
        return t;
    }

    private static final int EMPTY = 8;

    /** "registers 0 .. 31, each empty or with a term that is DERIVED" */
    private static void registersAreEmptyAtFirst() {
        SealedHouse x = new SealedHouse();
        x.publish(0);
        for (int r = 0; r < 32; r++) {
            Check.all("empty", Check.answers(x.about(r, 0), x.same(r, r), x.inject(0, r),
                    x.plant(0, 1, r), x.part(0, r, 0), x.make(0, 0, r, -1)),
                    NONE, NONE, NONE, NONE, NONE, NONE);
        }
    }

    private static void draw() {
        Twins t = kinds();
        for (int r : NO_REGISTERS) {
            t.refused("draw", x -> x.draw(r), NONE);
        }
        t.due("the first register", x -> x.draw(0), 1);
        t.due("the last register", x -> x.draw(31), 1);
        t.due("a SECRET", x -> x.about(31, 0), 1);
        t.due("another one", x -> x.same(0, 31), 0);
        t.end();
    }

    /** "what 0: the term of wire i" */
    private static void takeWires() {
        Twins t = kinds();
        t.refused("no wire yet", x -> x.take(7, 0, 0), NONE);
        t.due("send", x -> x.send(0, 1), 0);
        t.due("send", x -> x.send(0, 1), 1);
        for (int i : new int[] {MIN, -1, 2, 699, 700, MAX}) {
            t.refused("wire " + i, x -> x.take(7, 0, i), NONE);
        }
        for (int r : NO_REGISTERS) {
            t.refused("no register", x -> x.take(r, 0, 0), NONE);
        }
        t.due("the first", x -> x.take(0, 0, 0), 1);
        t.due("the last", x -> x.take(31, 0, 1), 1);
        t.due("another one", x -> x.same(0, 31), 0);
        t.end();
    }

    /** "1: place i % 5 of device i / 5 in the DIRECTORY" */
    private static void takePlaces() {
        Twins t = kinds();
        for (int i : new int[] {MIN, -5, -4, -1, 10, 29, 30, MAX}) {
            t.refused("place " + i, x -> x.take(7, 1, i), NONE);
        }
        int[] kind = {6, 7, 7, 7, 7, 6, 7, 7, 7, 7};
        for (int i = 0; i < 10; i++) {
            int at = i;
            t.due("place " + i, x -> x.take(7, 1, at), 1);
            t.due("kind", x -> x.about(7, 0), kind[i]);
            t.run(x -> x.part(7, 7, 5));
            t.due("device", x -> x.about(7, 2), i / 5);
            t.due("number", x -> x.about(7, 3), i % 5 + 1);
        }
        t.end();
    }

    /** "2: PUBLIC of device i's IDENTITY" */
    private static void takeIdentities() {
        Twins t = kinds();
        for (int i : NO_DEVICES) {
            t.refused("device " + i, x -> x.take(7, 2, i), NONE);
        }
        t.due("the first", x -> x.take(7, 2, 0), 1);
        t.due("the last", x -> x.take(31, 2, 5), 1);
        t.due("PUBLIC", x -> x.about(31, 0), 2);
        t.due("another one", x -> x.same(7, 31), 0);
        t.end();
    }

    /** "3: term i of the latest LOOK" */
    private static void takeTheLatestLook() {
        Twins t = kinds();
        t.refused("no LOOK yet", x -> x.take(7, 3, 0), NONE);
        t.due("a look", x -> x.look(0), 6);
        for (int i : new int[] {MIN, -1, 6, MAX}) {
            t.refused("term " + i, x -> x.take(7, 3, i), NONE);
        }
        t.due("the last term", x -> x.take(7, 3, 5), 1);
        t.due("the next look", x -> x.look(5), 1);
        t.refused("of the look before", x -> x.take(7, 3, 1), NONE);
        t.due("the only term", x -> x.take(7, 3, 0), 1);
        t.due("a longer one", x -> x.look(1), 6);
        t.due("the last term", x -> x.take(7, 3, 5), 1);
        t.refused("a look that is refused", x -> x.look(6), NONE);
        t.due("is not the latest", x -> x.take(7, 3, 5), 1);
        t.due("publish", x -> x.publish(1), 6);
        t.refused("what the device has since then", x -> x.take(7, 3, 6), NONE);
        t.end();
    }

    private static void takeNothingElse() {
        Twins t = kinds();
        t.run(x -> x.look(0));
        t.run(x -> x.send(0, 1));
        for (int what : new int[] {MIN, -1, 4, 5, MAX}) {
            t.refused("what " + what, x -> x.take(7, what, 0), NONE);
        }
        for (int what = 0; what <= 3; what++) {
            int of = what;
            t.due("what " + what, x -> x.take(7, of, 0), 1);
        }
        t.end();
    }

    /** "what 0 .. 3: that term of a ROW, 4: the head of a SEALED, 5: the m of a SIGNED" */
    private static void part() {
        Twins t = kinds();
        for (int r : NO_REGISTERS) {
            t.refused("no register", x -> x.part(r, 4, 4), NONE);
            t.refused("no register", x -> x.part(7, r, 4), NONE);
        }
        t.refused("empty", x -> x.part(7, EMPTY, 4), NONE);
        for (int r = 0; r <= 6; r++) {
            for (int what : new int[] {MIN, -1, 0, 1, 2, 3, 4, 5, 6, MAX}) {
                int of = r;
                boolean there = r == 4 && what == 4 || r == 5 && what == 5 || r == 6 && what == 0;
                if (!there) {
                    t.refused("part " + what + " of register " + r, x -> x.part(7, of, what), NONE);
                }
            }
        }
        t.due("the head", x -> x.part(7, 4, 4), 1);
        t.due("is that", x -> x.same(7, 1), 1);
        t.due("the m", x -> x.part(7, 5, 5), 1);
        t.due("is that", x -> x.same(7, 6), 1);
        t.due("the PUBLIC", x -> x.part(7, 6, 0), 1);
        t.due("is one", x -> x.about(7, 0), 2);
        t.run(x -> x.swap(6, 6, 3, 0));
        t.due("the last term", x -> x.part(31, 6, 3), 1);
        t.due("is that", x -> x.same(31, 0), 1);
        t.refused("NOTHING stands there", x -> x.part(31, 6, 2), NONE);
        t.end();
    }

    /** "if its key is in register k: 1; 0 if that is another one. NONE: x has no SEALED, k is empty" */
    private static void unseal() {
        Twins t = kinds();
        t.refused("another one", x -> x.unseal(7, 4, 1), 0);
        t.refused("k is empty", x -> x.unseal(7, 4, EMPTY), NONE);
        t.refused("x is empty", x -> x.unseal(7, EMPTY, 0), NONE);
        for (int r = 0; r <= 6; r++) {
            int of = r;
            if (r != 4) {
                t.refused("x has no SEALED", x -> x.unseal(7, of, 0), NONE);
            }
        }
        for (int r : NO_REGISTERS) {
            t.refused("no register", x -> x.unseal(r, 4, 0), NONE);
            t.refused("no register, another key", x -> x.unseal(r, 4, 1), NONE);
            t.refused("no register", x -> x.unseal(7, r, 0), NONE);
            t.refused("no register", x -> x.unseal(7, 4, r), NONE);
        }
        t.due("its key", x -> x.unseal(7, 4, 0), 1);
        t.due("the body", x -> x.same(7, 2), 1);
        t.due("into itself", x -> x.unseal(4, 4, 0), 1);
        t.due("the body", x -> x.same(4, 2), 1);
        t.end();
    }

    /** "what 0 .. 9: MIX what(x, y) (y -1: NOTHING)" */
    private static void makeMix() {
        Twins t = kinds();
        for (int what : new int[] {MIN, -1, 13, MAX}) {
            t.refused("what " + what, x -> x.make(7, what, 0, 1), NONE);
        }
        t.refused("x is empty", x -> x.make(7, 0, EMPTY, 1), NONE);
        t.refused("y is empty", x -> x.make(7, 9, 0, EMPTY), NONE);
        for (int r : NO_REGISTERS) {
            t.refused("no register", x -> x.make(r, 0, 0, 1), NONE);
            t.refused("no register", x -> x.make(7, 0, r, 1), NONE);
            if (r != -1) {
                t.refused("no register", x -> x.make(7, 0, 0, r), NONE);
            }
        }
        for (int r = 0; r <= 6; r++) {
            int of = r;
            t.due("of any term", x -> x.make(7, 0, of, of), 1);
            t.due("MIX", x -> x.about(7, 0), 4);
            t.due("with NOTHING", x -> x.make(31, 0, of, -1), 1);
            t.due("another one", x -> x.same(7, 31), 0);
        }
        t.end();
    }

    /** "10: PUBLIC(x)" and "y of 10 is not looked at" */
    private static void makePublic() {
        Twins t = kinds();
        for (int r = 1; r <= 6; r++) {
            int of = r;
            t.refused("x is no SECRET", x -> x.make(7, 10, of, 0), NONE);
        }
        t.refused("x is empty", x -> x.make(7, 10, EMPTY, 0), NONE);
        for (int y : new int[] {MIN, -2, -1, 0, EMPTY, 31, 32, MAX}) {
            t.due("y is not looked at", x -> x.make(7, 10, 0, y), 1);
            t.due("PUBLIC", x -> x.same(7, 1), 1);
        }
        t.end();
    }

    /** "11: SHARED(x, t), y having PUBLIC(t)" */
    private static void makeShared() {
        Twins t = kinds();
        for (int r = 0; r <= 6; r++) {
            int of = r;
            if (r != 0) {
                t.refused("x is no SECRET", x -> x.make(7, 11, of, 1), NONE);
            }
            if (r != 1) {
                t.refused("y is no PUBLIC", x -> x.make(7, 11, 0, of), NONE);
            }
        }
        for (int y : new int[] {MIN, -2, -1, EMPTY, 32, MAX}) {
            t.refused("y is empty", x -> x.make(7, 11, 0, y), NONE);
        }
        t.due("SHARED", x -> x.make(7, 11, 0, 1), 1);
        t.due("the same", x -> x.same(7, 2), 1);
        t.end();
    }

    /** "12: SIGNED(x, y)" */
    private static void makeSigned() {
        Twins t = kinds();
        for (int r = 1; r <= 6; r++) {
            int of = r;
            t.refused("x is no SECRET", x -> x.make(7, 12, of, 0), NONE);
        }
        for (int y : new int[] {MIN, -2, -1, EMPTY, 32, MAX}) {
            t.refused("y is empty", x -> x.make(7, 12, 0, y), NONE);
        }
        for (int r = 0; r <= 6; r++) {
            int of = r;
            t.due("of any term", x -> x.make(7, 12, 0, of), 1);
            t.due("SIGNED", x -> x.about(7, 0), 6);
            t.due("its m", x -> x.part(7, 7, 5), 1);
            t.due("is that", x -> x.same(7, of), 1);
        }
        t.end();
    }

    private static void seal() {
        Twins t = kinds();
        for (int r : new int[] {MIN, -2, -1, EMPTY, 32, MAX}) {
            t.refused("no key", x -> x.seal(7, r, 0, 0), NONE);
            t.refused("no head", x -> x.seal(7, 0, r, 0), NONE);
            t.refused("no body", x -> x.seal(7, 0, 0, r), NONE);
        }
        for (int r : NO_REGISTERS) {
            t.refused("no register", x -> x.seal(r, 0, 0, 0), NONE);
        }
        t.due("seal", x -> x.seal(7, 0, 1, 2), 1);
        t.due("the same", x -> x.same(7, 4), 1);
        t.due("the last registers", x -> x.seal(31, 31, 31, 31), 1);
        t.due("SEALED", x -> x.about(31, 0), 5);
        t.end();
    }

    /** "the ROW in register x with the number k (0 .. 3) v" */
    private static void alterNumbers() {
        Twins t = kinds();
        for (int k : new int[] {MIN, -1, 5, MAX}) {
            t.refused("number " + k, x -> x.alter(7, 6, k, 1), NONE);
        }
        for (int r = 0; r <= 5; r++) {
            int of = r;
            t.refused("it is no ROW", x -> x.alter(7, of, 0, 1), NONE);
        }
        t.refused("empty", x -> x.alter(7, EMPTY, 0, 1), NONE);
        for (int r : NO_REGISTERS) {
            t.refused("no register", x -> x.alter(r, 6, 0, 1), NONE);
            t.refused("no register", x -> x.alter(7, r, 0, 1), NONE);
        }
        for (int k = 0; k <= 3; k++) {
            for (int v : new int[] {MIN, -1, 0, 1, MAX}) {
                int at = k;
                t.due("alter", x -> x.alter(7, 6, at, v), 1);
                t.due("v", x -> x.about(7, 2 + at), v);
                t.due("KIND", x -> x.about(7, 1), 1);
            }
        }
        t.end();
    }

    /** "or (k 4) the KIND v (1 .. 7)" */
    private static void alterKind() {
        Twins t = kinds();
        for (int v : new int[] {MIN, -1, 0, 8, MAX}) {
            t.refused("KIND " + v, x -> x.alter(7, 6, 4, v), NONE);
        }
        for (int v = 1; v <= 7; v++) {
            int kind = v;
            t.due("alter", x -> x.alter(7, 6, 4, kind), 1);
            t.due("KIND", x -> x.about(7, 1), kind);
            t.due("the numbers stay", x -> x.about(7, 3), 1);
        }
        t.end();
    }

    /** "with the term k (0 .. 3) of register y (-1: NOTHING)" */
    private static void swap() {
        Twins t = kinds();
        for (int k : new int[] {MIN, -1, 4, 5, MAX}) {
            t.refused("term " + k, x -> x.swap(7, 6, k, 0), NONE);
        }
        for (int r = 0; r <= 5; r++) {
            int of = r;
            t.refused("it is no ROW", x -> x.swap(7, of, 0, 0), NONE);
            t.refused("it is no ROW", x -> x.swap(7, of, 0, -1), NONE);
        }
        t.refused("empty", x -> x.swap(7, EMPTY, 0, 0), NONE);
        for (int y : new int[] {MIN, -2, EMPTY, 32, MAX}) {
            t.refused("y is empty", x -> x.swap(7, 6, 0, y), NONE);
        }
        for (int r : NO_REGISTERS) {
            t.refused("no register", x -> x.swap(r, 6, 0, 0), NONE);
            t.refused("no register", x -> x.swap(7, r, 0, 0), NONE);
        }
        for (int k = 0; k <= 3; k++) {
            int at = k;
            t.due("swap", x -> x.swap(7, 6, at, 4), 1);
            t.due("there", x -> x.part(31, 7, at), 1);
            t.due("is that", x -> x.same(31, 4), 1);
            t.due("NOTHING", x -> x.swap(7, 7, at, -1), 1);
            t.refused("NOTHING stands there", x -> x.part(31, 7, at), NONE);
        }
        t.end();
    }

    private static void same() {
        Twins t = kinds();
        for (int r : new int[] {MIN, -2, -1, EMPTY, 32, MAX}) {
            t.refused("one is empty", x -> x.same(0, r), NONE);
            t.refused("one is empty", x -> x.same(r, 0), NONE);
            t.refused("both are", x -> x.same(r, r), NONE);
        }
        t.due("the first, the last", x -> x.same(0, 31), 0);
        t.due("the last", x -> x.same(31, 31), 1);
        t.end();
    }

    /** "what 0: 1 SECRET, .. 7 ROW; 1: n of a MIX, the KIND of a ROW, 0 of others; 2 .. 5: .." */
    private static void about() {
        Twins t = kinds();
        for (int r = 0; r <= 6; r++) {
            int of = r;
            t.due("what 0", x -> x.about(of, 0), r + 1);
            t.due("what 1", x -> x.about(of, 1), r == 3 ? 9 : r == 6 ? 1 : 0);
            for (int what = 2; what <= 5; what++) {
                int number = what;
                t.due("what " + what, x -> x.about(of, number), r == 6 && what == 3 ? 1 : 0);
            }
            for (int what : new int[] {MIN, -1, 6, MAX}) {
                t.refused("what " + what, x -> x.about(of, what), NONE);
            }
        }
        for (int r : new int[] {MIN, -1, EMPTY, 32, MAX}) {
            t.refused("empty", x -> x.about(r, 0), NONE);
        }
        t.due("the last register", x -> x.about(31, 0), 1);
        t.end();
    }

    private static void derived() {
        Twins t = kinds();
        t.refused("no letter yet", x -> x.derived(0), NONE);
        t.due("a list has none", x -> x.list(0, 1), 0);
        t.refused("no letter yet", x -> x.derived(0), NONE);
        t.due("send", x -> x.send(0, 1), 1);
        t.due("the first", x -> x.derived(0), 0);
        for (int l : new int[] {MIN, -1, 1, 699, 700, MAX}) {
            t.refused("letter " + l, x -> x.derived(l), NONE);
        }
        t.due("look", x -> x.look(0), 13);
        t.due("send", x -> x.send(0, 1), 2);
        t.due("the last", x -> x.derived(1), 1);
        t.refused("one more", x -> x.derived(2), NONE);
        t.end();
    }

    /** "NONE if it bears none (or there is no such wire)" */
    private static void letter() {
        Twins t = Twins.published(2);
        t.refused("no wire yet", x -> x.letter(0), NONE);
        t.due("list", x -> x.list(0, 3), 0);
        t.due("post", x -> x.post(0, 0), 2);
        t.due("send", x -> x.send(0, 1), 3);
        for (int w : new int[] {MIN, -1, 4, 699, 700, MAX}) {
            t.refused("wire " + w, x -> x.letter(w), NONE);
        }
        int[] due = {NONE, NONE, 0, 1};
        for (int w = 0; w < due.length; w++) {
            int wire = w;
            t.due("wire " + w, x -> x.letter(wire), due[w]);
        }
        t.end();
    }

    /** "NONE if it took none (3: 0), or for another what" */
    private static void takenWithoutAny() {
        Twins t = Twins.published(2);
        for (int d : NO_DEVICES) {
            for (int what = 0; what <= 3; what++) {
                int of = what;
                t.refused("no device", x -> x.taken(d, of), NONE);
            }
        }
        for (int d = 0; d < 6; d++) {
            int of = d;
            t.due("how many", x -> x.taken(of, 3), 0);
            for (int what : new int[] {MIN, -1, 0, 1, 2, 4, MAX}) {
                t.refused("what " + what, x -> x.taken(of, what), NONE);
            }
        }
        t.end();
    }

    private static void takenLast() {
        Twins t = Twins.published(3);
        t.due("list", x -> x.list(0, 3), 0);
        t.due("post", x -> x.post(0, 0), 2);
        t.due("send", x -> x.send(2, 1), 3);
        t.due("list", x -> x.deliver(1, 0), 3);
        t.due("gift", x -> x.deliver(1, 1), 2);
        t.due("none yet", x -> x.taken(1, 3), 0);
        t.due("post", x -> x.deliver(1, 2), 1);
        takenIs(t, 0, 0, 0, 1);
        t.due("letter", x -> x.deliver(1, 3), 1);
        takenIs(t, 1, 2, NONE, 2);
        t.refused("refused", x -> x.deliver(1, 3), -13);
        takenIs(t, 1, 2, NONE, 2);
        for (int what : new int[] {MIN, -1, 4, MAX}) {
            t.refused("what " + what, x -> x.taken(1, what), NONE);
        }
        t.end();
    }

    private static void takenIs(Twins t, int... due) {
        for (int what = 0; what < due.length; what++) {
            int of = what;
            t.due("taken " + what, x -> x.taken(1, of), due[what]);
        }
    }

    private static void device() {
        Twins t = Twins.published(1);
        for (int d : NO_DEVICES) {
            t.refused("no device", x -> x.device(d, 0), NONE);
            t.refused("no device", x -> x.device(d, 7), NONE);
        }
        for (int what : new int[] {MIN, -1, 8, MAX}) {
            t.refused("what " + what, x -> x.device(0, what), NONE);
        }
        int[] due = {1, 0, 4, 0, 6, 6, 1, 0};
        for (int what = 0; what < due.length; what++) {
            int of = what;
            t.due("what " + what, x -> x.device(0, of), due[what]);
            t.due("the last device, what " + what, x -> x.device(5, of),
                    what == 4 || what == 5 ? 1 : 0);
        }
        t.end();
    }

    private static void session() {
        Twins t = Twins.published(6);
        t.due("begin", x -> x.begin(0, 5), 1);
        t.due("begin", x -> x.begin(5, 0), 1);
        for (int d : NO_DEVICES) {
            t.refused("no device", x -> x.session(d, 0, 0, 0), NONE);
            t.refused("no device", x -> x.session(0, d, 0, 0), NONE);
        }
        for (int d = 0; d < 6; d++) {
            int of = d;
            t.refused("with itself", x -> x.session(of, of, 0, 0), NONE);
        }
        for (int k : new int[] {MIN, -1, 1, 2, MAX}) {
            t.refused("session " + k, x -> x.session(0, 5, k, 0), NONE);
        }
        for (int what : new int[] {MIN, -1, 7, MAX}) {
            t.refused("what " + what, x -> x.session(0, 5, 0, what), NONE);
        }
        t.refused("none with 4", x -> x.session(0, 4, 0, 0), NONE);
        int[] due = {0, 0, 0, 0, 1, 1, 0};
        for (int what = 0; what < due.length; what++) {
            int of = what;
            t.due("what " + what, x -> x.session(0, 5, 0, of), due[what]);
            t.due("what " + what, x -> x.session(5, 0, 0, of), due[what]);
        }
        t.due("begin", x -> x.begin(0, 5), 2);
        t.due("session 1", x -> x.session(0, 5, 1, 6), 0);
        t.refused("session 2", x -> x.session(0, 5, 2, 6), NONE);
        t.end();
    }

    /** "10 + p: how many keys .. 40 + p: its LEFT keys (NONE without). NONE for another what." */
    private static void group() {
        Twins t = Twins.published(6);
        t.due("list", x -> x.list(3, 63), 0);
        t.due("list", x -> x.deliver(5, 0), 3);
        t.due("list", x -> x.deliver(0, 0), 3);
        t.due("post of 0", x -> x.post(0, 3), 6);
        t.due("post of 0", x -> x.post(0, 3), 7);
        t.due("gift", x -> x.deliver(5, 5), 2);
        t.due("post", x -> x.deliver(5, 7), 1);
        for (int d : NO_DEVICES) {
            t.refused("no device", x -> x.group(d, 0, 0), NONE);
        }
        for (int g : new int[] {MIN, -1, 4, MAX}) {
            t.refused("no group", x -> x.group(0, g, 0), NONE);
        }
        for (int what : new int[] {MIN, -10, -1, 7, 8, 9, 16, 17, 18, 19, 26, 29, 36, 39, 46, 49,
            50, 51, 60, MAX}) {
            t.refused("what " + what, x -> x.group(5, 3, what), NONE);
        }
        int[] own = {1, 63, 0, 0, 0, 0, 0};
        for (int what = 0; what < own.length; what++) {
            int of = what;
            t.due("what " + what, x -> x.group(5, 3, of), own[what]);
        }
        int[] given = {1, 1, 2, 1};
        for (int i = 0; i < given.length; i++) {
            int of = 10 * (i + 1);
            t.due("what " + of, x -> x.group(5, 3, of), given[i]);
            t.due("of device 4", x -> x.group(5, 3, of + 4), i == 0 ? 0 : NONE);
            t.due("in another group", x -> x.group(5, 2, of), i == 0 ? 0 : NONE);
        }
        t.end();
    }

    /** A device has no key of itself. */
    private static void groupKeysOfItself() {
        SealedHouse x = new SealedHouse();
        x.list(0, 1);
        x.post(0, 0);
        Check.all("of itself", Check.answers(x.group(0, 0, 10), x.group(0, 0, 20),
                x.group(0, 0, 30), x.group(0, 0, 40)), 0, NONE, NONE, NONE);
        Check.all("of the last device", Check.answers(x.group(5, 3, 15), x.group(5, 3, 25),
                x.group(5, 3, 35), x.group(5, 3, 45)), 0, NONE, NONE, NONE);
    }

    private static void count() {
        Twins t = Twins.published(2);
        for (int what : new int[] {MIN, -1, 3, MAX}) {
            t.refused("what " + what, x -> x.count(what), NONE);
        }
        int[] due = {0, 0, 16};
        for (int what = 0; what < due.length; what++) {
            int of = what;
            t.due("what " + what, x -> x.count(of), due[what]);
        }
        t.end();
    }

    // ---- totals

    /** "that s had not sent d, or posted to that group": of true letters none counts */
    private static void forgedIsNoneOfTheTrueOnes() {
        SealedHouse x = new SealedHouse();
        for (int d = 0; d < 6; d++) {
            x.publish(d);
        }
        for (int s = 0; s < 6; s++) {
            for (int d = 0; d < 6; d++) {
                if (s != d) {
                    Check.due("taken", x.deliver(d, x.send(s, d)), 1);
                }
            }
        }
        for (int g = 0; g < 4; g++) {
            int s = (g + 3) % 6;
            int list = x.list(g, 63);
            for (int d = 0; d < 6; d++) {
                if (d != g) {
                    Check.due("a list", x.deliver(d, list), 3);
                }
            }
            int post = x.post(s, g);
            for (int d = 0; d < 6; d++) {
                if (d != s) {
                    Check.due("a gift", x.deliver(d, post - 5 + (d < s ? d : d - 1)), 2);
                    Check.due("a post", x.deliver(d, post), 1);
                }
            }
        }
        Check.all("none forged, none twice", Check.answers(x.forged(), x.doubled()), 0, 0);
    }

    /** "neither having been looked into until then" and "(also what is no letter's SECRET)" */
    private static void forged() {
        Twins t = Twins.published(2);
        t.due("send", x -> x.send(0, 1), 0);
        t.due("deliver", x -> x.deliver(1, 0), 1);
        t.due("a true one", x -> x.forged(), 0);
        t.run(x -> Forge.begin(x, 0, 1, 0));
        t.run(x -> Forge.firstLetter(x, 0, 1, false));
        t.due("made by the attacker", x -> x.inject(1, Forge.MADE), 1);
        t.due("no letter's SECRET", x -> x.taken(1, 0), NONE);
        t.due("but 0 was looked into", x -> x.forged(), 0);
        t.end();
    }

    /** Begins as device 0 with what a look into device 1 gave; MADE has the first letter. */
    private static void asIfFromZero(SealedHouse x) {
        Forge.identity(x, 1);
        Forge.announced(x, Forge.PREKEY, 1, 0);
        boolean found = false;
        for (int i = 0; !found && x.take(5, 3, i) == 1; i++) {
            found = x.make(6, 10, 5, -1) == 1 && x.same(6, Forge.PREKEY) == 1;
        }
        x.draw(7);
        x.make(Forge.BASE, 10, 7, -1);
        x.take(8, 2, 0);
        x.make(9, 11, 5, 8);
        x.make(8, 11, Forge.IDENTITY, Forge.BASE);
        x.make(9, 0, 9, 8);
        x.make(8, 11, 5, Forge.BASE);
        x.make(9, 1, 9, 8);
        x.make(Forge.ROOT, 3, 9, -1);
        Forge.firstLetter(x, 0, 1, false);
    }

    private static void forgedToOneLookedInto() {
        Twins t = Twins.published(2);
        t.run(CallEdgesTest::asIfFromZero);
        t.due("as from 0", x -> x.inject(1, Forge.MADE), 1);
        t.due("no letter's SECRET", x -> x.taken(1, 0), NONE);
        t.due("from 0", x -> x.taken(1, 1), 0);
        t.due("but 1 was looked into", x -> x.forged(), 0);
        t.end();
    }

    private static void doubledToOneLookedInto() {
        Twins t = Twins.published(2);
        t.due("send", x -> x.send(0, 1), 0);
        t.due("send", x -> x.send(0, 1), 1);
        t.due("deliver", x -> x.deliver(1, 0), 1);
        t.due("look", x -> x.look(1), 10);
        t.run(x -> {
            // RECEIVE is the last of what it has
            x.take(0, 3, 9);
            x.make(0, 6, 0, -1);
            x.take(1, 0, 1);
            Check.due("unseal", x.unseal(2, 1, 0), 1);
            x.part(2, 2, 0);
        });
        t.due("deliver", x -> x.deliver(1, 1), 1);
        t.run(x -> {
            asIfFromZero(x);
            x.swap(Forge.BODY, Forge.BODY, 0, 2);
            Forge.seal(x);
        });
        t.due("once more", x -> x.inject(1, Forge.MADE), 1);
        t.due("letter 1", x -> x.taken(1, 0), 1);
        t.due("from 0", x -> x.taken(1, 1), 0);
        t.due("but 1 was looked into", x -> x.doubled(), 0);
        t.end();
    }

    /** "that it had taken before" */
    private static void doubled() {
        Twins t = Twins.published(4);
        t.due("list", x -> x.list(0, 15), 0);
        t.due("list", x -> x.deliver(1, 0), 3);
        t.due("post", x -> x.post(0, 0), 4);
        t.due("gift to 2", x -> x.deliver(2, 2), 2);
        t.run(x -> openPost(x));
        t.run(x -> Forge.begin(x, 2, 1, 0));
        t.run(x -> {
            Forge.firstLetter(x, 2, 1, false);
            x.swap(Forge.BODY, Forge.BODY, 0, 2);
            Forge.seal(x);
        });
        t.due("its letter comes from 2", x -> x.inject(1, Forge.MADE), 1);
        t.due("it is letter 0", x -> x.taken(1, 0), 0);
        t.due("once", x -> x.doubled(), 0);
        t.due("gift", x -> x.deliver(1, 1), 2);
        t.due("and from 0", x -> x.deliver(1, 4), 1);
        t.due("twice", x -> x.doubled(), 1);
        t.refused("no third time", x -> x.deliver(1, 4), -13);
        t.due("another device", x -> x.deliver(3, 3), 2);
        t.due("list", x -> x.deliver(3, 0), 3);
        t.due("takes it for the first time", x -> x.deliver(3, 4), 1);
        t.due("as before", x -> x.doubled(), 1);
        t.run(x -> x.look(0));
        t.run(x -> x.look(1));
        t.due("looks behind it change nothing", x -> x.doubled(), 1);
        t.end();
    }

    /** Register 2 gets the SECRET of the post on wire 4, by the key that was given to device 2. */
    private static void openPost(SealedHouse x) {
        x.look(2);
        x.take(0, 3, 10);
        x.make(0, 6, 0, -1);
        x.take(1, 0, 4);
        x.part(1, 1, 5);
        Check.due("unseal", x.unseal(2, 1, 0), 1);
        Check.due("its SECRET", x.part(2, 2, 0), 1);
    }

    /** Letters that are derived, but are none of the four kinds of the promise. */
    private static void leaked() {
        Twins t = Twins.published(3);
        t.due("send", x -> x.send(0, 1), 0);
        t.due("not derived", x -> x.leaked(), 0);
        t.run(x -> x.look(1));
        t.due("derived", x -> x.derived(0), 1);
        t.due("it was not taken before the look", x -> x.leaked(), 0);
        t.due("deliver", x -> x.deliver(1, 0), 1);
        t.due("nor is it now", x -> x.leaked(), 0);
        t.due("list", x -> x.list(0, 7), 1);
        t.due("post", x -> x.post(0, 0), 4);
        t.due("the gift is derived, and so is the post", x -> x.derived(1), 1);
        t.due("its list had one that was looked into", x -> x.leaked(), 0);
        t.end();
    }
}
