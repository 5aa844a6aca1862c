/**
 * What the attacker can make in the name of a device that it looked into. It keeps to registers
 * 14 to 31: 31 has what is made at last.
 */
final class Forge {
    static final int MADE = 31;
    static final int BODY = 30;
    static final int HEAD = 29;
    static final int KEY = 28;
    static final int CHAIN = 27;
    static final int KEY_PUBLIC = 26;
    static final int ROOT = 25;
    static final int ONCE = 24;
    static final int PREKEY = 23;
    static final int BASE = 22;
    static final int IDENTITY = 21;
    static final int SIGNER = 20;
    private static final int STEP = 19;
    private static final int NOTHING = -1;

    private Forge() {
    }

    /** Register r gets a ROW of this KIND with these numbers and no terms. */
    static void row(SealedHouse x, int r, int kind, int... numbers) {
        boolean found = false;
        for (int i = 0; i < 30 && !found; i += 5) {
            found = x.take(r, 1, i) == 1 && x.part(r, r, 5) == 1 && x.about(r, 0) == 7;
        }
        Check.due("a ROW to alter", found ? 1 : 0, 1);
        x.alter(r, r, 4, kind);
        for (int i = 0; i < 4; i++) {
            x.alter(r, r, i, numbers[i]);
            x.swap(r, r, i, NOTHING);
        }
    }

    /** A look into s; its IDENTITY is the first term of the present half. */
    static void identity(SealedHouse x, int s) {
        x.look(s);
        x.take(STEP, 2, s);
        boolean found = false;
        for (int i = 0; !found && x.take(IDENTITY, 3, i) == 1; i++) {
            found = x.make(KEY, 10, IDENTITY, NOTHING) == 1 && x.same(KEY, STEP) == 1;
        }
        Check.due("an IDENTITY", found ? 1 : 0, 1);
    }

    /** Register r gets the PUBLIC that a place of the DIRECTORY announces. */
    static void announced(SealedHouse x, int r, int d, int place) {
        Check.due("a place", x.take(r, 1, d * 5 + place), 1);
        x.part(r, r, 5);
        Check.due("its PUBLIC", x.part(r, r, 0), 1);
    }

    /** Begins a session with d as s, with the key at a place of d as ONCE, or without (place 0). */
    static void begin(SealedHouse x, int s, int d, int place) {
        identity(x, s);
        announced(x, PREKEY, d, 0);
        beginWith(x, d, place);
    }

    /** Begins another one, with the IDENTITY and the PREKEY of d that the registers have. */
    static void beginWith(SealedHouse x, int d, int place) {
        x.draw(BODY);
        x.make(BASE, 10, BODY, NOTHING);
        x.make(ROOT, 11, IDENTITY, PREKEY);
        x.take(STEP, 2, d);
        x.make(STEP, 11, BODY, STEP);
        x.make(ROOT, 0, ROOT, STEP);
        x.make(STEP, 11, BODY, PREKEY);
        x.make(ROOT, 1, ROOT, STEP);
        if (place == 0) {
            x.make(ROOT, 3, ROOT, NOTHING);
        } else {
            announced(x, ONCE, d, place);
            x.make(STEP, 11, BODY, ONCE);
            x.make(ROOT, 2, ROOT, STEP);
        }
    }

    /** Turns to a chain of the SECRET in register r, while d has not turned from its PREKEY. */
    static void turn(SealedHouse x, int r) {
        x.make(KEY_PUBLIC, 10, r, NOTHING);
        x.make(STEP, 11, r, PREKEY);
        x.make(CHAIN, 5, ROOT, STEP);
        x.make(ROOT, 4, ROOT, STEP);
    }

    /** The key at an index of the chain. */
    static void key(SealedHouse x, int index) {
        keyOf(x, CHAIN, index);
    }

    static void keyOf(SealedHouse x, int chain, int index) {
        int from = chain;
        for (int i = 0; i < index; i++) {
            x.make(KEY, 7, from, NOTHING);
            from = KEY;
        }
        x.make(KEY, 6, from, NOTHING);
    }

    /** Register r gets what register q has. */
    static void copy(SealedHouse x, int r, int q) {
        x.seal(r, q, q, q);
        x.part(r, r, 4);
    }

    /** ROW 3 with BASE and KEY, and with PREKEY if it bears. */
    static void head(SealedHouse x, int s, int d, int n, int before) {
        row(x, HEAD, 3, s, d, n, before);
        x.swap(HEAD, HEAD, 0, BASE);
        x.swap(HEAD, HEAD, 1, KEY_PUBLIC);
    }

    static void bears(SealedHouse x, boolean once) {
        x.swap(HEAD, HEAD, 2, PREKEY);
        x.swap(HEAD, HEAD, 3, once ? ONCE : NOTHING);
    }

    /** ROW 4 with a SECRET that is no letter's. */
    static void letter(SealedHouse x) {
        row(x, BODY, 4, 0, 0, 0, 0);
        x.draw(STEP);
        x.swap(BODY, BODY, 0, STEP);
    }

    /** ROW 5 with a chain and a signer that the attacker drew: registers CHAIN and SIGNER. */
    static void gift(SealedHouse x, int g, int generation, int index) {
        row(x, BODY, 5, g, generation, index, 0);
        x.make(STEP, 10, SIGNER, NOTHING);
        x.swap(BODY, BODY, 0, CHAIN);
        x.swap(BODY, BODY, 1, STEP);
    }

    static void seal(SealedHouse x) {
        Check.due("seal", x.seal(MADE, KEY, HEAD, BODY), 1);
    }

    /** The letter of a new session from s with d, behind begin: index 0 of its first chain. */
    static void firstLetter(SealedHouse x, int s, int d, boolean once) {
        x.draw(18);
        turn(x, 18);
        key(x, 0);
        head(x, s, d, 0, 0);
        bears(x, once);
        letter(x);
        seal(x);
    }

    /** A post as device s at an index of the chain in CHAIN, which is at index 0 there. */
    static void post(SealedHouse x, int g, int s, int generation, int index) {
        row(x, HEAD, 7, g, s, generation, index);
        letter(x);
        seal(x);
        x.make(MADE, 12, SIGNER, MADE);
    }

    /** A list of group g, signed by the IDENTITY in its register. */
    static void list(SealedHouse x, int g, int version, int mask) {
        row(x, HEAD, 6, g, version, mask, 0);
        x.make(MADE, 12, IDENTITY, HEAD);
    }
}
