import java.util.Arrays;

/**
 * A house of sealed mail: six devices, a server that nobody trusts, and an attacker who has every
 * wire. The document's numbered promises say what each call answers and changes.
 *
 * <p>Terms are numbers of rows in one table (Terms), so that two terms are the same if their
 * numbers are. A device works on a copy of what it has (work); the copy takes its place only when
 * the store's head has been written.
 */
public final class SealedHouse {
    public static final int NONE = -1;
    public static final int FULL = -2;
    public static final int DOWN = -3;
    public static final int CRASHED = -4;

    private static final int CANNOT_BEGIN = -5;
    private static final int NO_GOOD_LIST = -6;
    private static final int NO_FORM = -10;
    private static final int NOT_FOR_IT = -11;
    private static final int NO_SESSION = -12;
    private static final int OUT_OF_REACH = -13;
    private static final int WRONG_KEY = -14;
    private static final int WRONG_BODY = -15;
    private static final int WRONG_LIST = -16;
    private static final int NO_GROUP_KEY = -17;

    private static final int A_LETTER = 1;
    private static final int A_GIFT = 2;
    private static final int A_LIST = 3;

    private static final int DEVICES = 6;
    private static final int GROUPS = 4;
    private static final int MASKS = 64;
    private static final int REGISTERS = 32;
    private static final int PLACES = 5;
    private static final int INDEXES = 10_000;
    private static final int CUTS = 201;
    private static final int MAX_DRAWS = 3_000;
    private static final int MAX_WIRES = 700;
    private static final int SPARE_DRAWS = 40;
    private static final int SPARE_WIRES = 8;
    private static final int MAX_SESSIONS = 2;
    private static final int MAX_GIVEN = 2;
    private static final int MAX_LEFT = 8;
    private static final int MAX_SKIP = 5;
    private static final int MAX_BASES = 4;
    private static final int MAX_ONCE = 4;
    private static final int BLOCK = 8;
    // 15 of keys, 10 sessions of 15, 4 groups of 91: 529, in whole blocks
    private static final int MAX_ENTRIES = 67 * BLOCK;

    private static final int NOTHING = 0;
    private static final int SECRET = 1;
    private static final int PUBLIC = 2;
    private static final int SHARED = 3;
    private static final int MIX = 4;
    private static final int SEALED = 5;
    private static final int SIGNED = 6;
    private static final int ROW = 7;

    private static final int ROW_KINDS = 7;
    private static final int ROW_PREKEY = 1;
    private static final int ROW_ONCE = 2;
    private static final int ROW_SESSION = 3;
    private static final int ROW_LETTER = 4;
    private static final int ROW_GIFT = 5;
    private static final int ROW_LIST = 6;
    private static final int ROW_POST = 7;

    private static final int PARTS = 4;
    private static final int SEAL_KEY = 0;
    private static final int SEAL_HEAD = 1;
    private static final int SEAL_BODY = 2;
    private static final int SIGN_BY = 0;
    private static final int SIGN_TEXT = 1;

    private static final int FOR_ELSE = 0;
    private static final int FOR_PREKEY = 1;
    private static final int FOR_MINE = 2;
    private static final int ATTACKER = DEVICES;

    private static final int LOST = 0;
    private static final int KEPT = 1;
    private static final int DONE = 2;

    private final Terms terms = new Terms();
    private final Knowledge attacker = new Knowledge(terms);
    private final Wires wires = new Wires();
    private final Ledger ledger = new Ledger();
    private final Device[] devices = new Device[DEVICES];
    private final Store[] stores = new Store[DEVICES];
    private final int[] identities = new int[DEVICES];
    private final int[] directory = new int[DEVICES * PLACES];
    private final int[] registers = new int[REGISTERS];
    private final int[] seen = new int[4 * MAX_ENTRIES];
    private int seenCount;
    private Device work = new Device();

    public SealedHouse() {
        for (int d = 0; d < DEVICES; d++) {
            identities[d] = terms.secret(d, FOR_ELSE);
            attacker.give(terms.publicOf(identities[d]));
            devices[d] = new Device();
            devices[d].identity = identities[d];
            stores[d] = new Store(identities[d]);
        }
    }

    // ---- devices

    public int publish(int d) {
        int refusal = refusal(isDevice(d), d);
        if (refusal != 0) {
            return refusal;
        }
        startWork(d);
        work.renewKeys(terms, d);
        if (!finish(d)) {
            return CRASHED;
        }
        announceKeys(d);
        return devices[d].prekeys[0].number;
    }

    public int begin(int s, int d) {
        int refusal = refusal(areTwo(s, d), s);
        if (refusal != 0) {
            return refusal;
        }
        startWork(s);
        if (openSession(s, d) == null) {
            return CANNOT_BEGIN;
        }
        return finish(s) ? devices[s].sessionCount[d] : CRASHED;
    }

    public int send(int s, int d) {
        int refusal = refusal(areTwo(s, d), s);
        if (refusal != 0) {
            return refusal;
        }
        startWork(s);
        Session way = work.firstSession(d);
        if (way == null) {
            way = openSession(s, d);
        }
        if (way == null) {
            return CANNOT_BEGIN;
        }
        way.turnToSend(terms, s);
        int secret = terms.secret(s, FOR_ELSE);
        wires.add(way.nextWire(terms, s, d, letterRow(secret)));
        if (!finish(s)) {
            return CRASHED;
        }
        return wires.tell(attacker, ledger.addSent(terms, secret, s, d, way));
    }

    public int list(int g, int mask) {
        int refusal = refusal(isGroup(g) && mask >= 0 && mask < MASKS, g);
        if (refusal != 0) {
            return refusal;
        }
        if (!hasBit(mask, g) || (mask & devices[g].memberships[g].gone) != 0) {
            return NO_GOOD_LIST;
        }
        startWork(g);
        Membership own = work.memberships[g];
        own.adopt(own.version + 1, mask);
        terms.startRow(ROW_LIST, g, own.version, mask, 0);
        int row = terms.endRow(NOTHING, NOTHING, NOTHING, NOTHING);
        wires.add(terms.signed(identities[g], row));
        return finish(g) ? wires.tell(attacker, NONE) : CRASHED;
    }

    public int post(int s, int g) {
        int refusal = refusal(isDevice(s) && isGroup(g), s);
        if (refusal != 0) {
            return refusal;
        }
        if (devices[s].memberships[g].version == 0) {
            return NO_GOOD_LIST;
        }
        startWork(s);
        Membership own = work.memberships[g];
        own.renewChain(terms, s);
        handOut(s, g, own);
        int secret = terms.secret(s, FOR_ELSE);
        wires.add(own.nextPost(terms, g, s, letterRow(secret)));
        if (!finish(s)) {
            return CRASHED;
        }
        return wires.tell(attacker, ledger.addPosted(terms, secret, s, g, own.mask));
    }

    public int deliver(int d, int w) {
        if (!isDevice(d) || !wires.has(w)) {
            return NONE;
        }
        return arrive(d, wires.termOf[w]);
    }

    public int inject(int d, int r) {
        int term = held(r);
        if (!isDevice(d) || term == NOTHING) {
            return NONE;
        }
        return arrive(d, term);
    }

    public int crash(int d, int k) {
        if (!isDevice(d) || k < 0 || k >= CUTS) {
            return NONE;
        }
        if (stores[d].down) {
            return DOWN;
        }
        stores[d].cut = k;
        return 1;
    }

    public int up(int d) {
        if (!isDevice(d)) {
            return NONE;
        }
        return stores[d].comeUp() ? 1 : 0;
    }

    // ---- the attacker

    public int draw(int r) {
        if (!isRegister(r)) {
            return NONE;
        }
        if (isFull()) {
            return FULL;
        }
        int secret = terms.secret(ATTACKER, FOR_ELSE);
        attacker.give(secret);
        return keep(r, secret);
    }

    public int take(int r, int what, int i) {
        return keep(r, onOffer(what, i));
    }

    public int part(int r, int x, int what) {
        int term = held(x);
        int kind = terms.kindOf(term);
        if (what >= 0 && what <= 3) {
            return keep(r, kind == ROW ? terms.partOf(term, what) : NOTHING);
        }
        if (what == 4) {
            return keep(r, kind == SEALED ? terms.partOf(term, SEAL_HEAD) : NOTHING);
        }
        return keep(r, what == 5 && kind == SIGNED ? terms.partOf(term, SIGN_TEXT) : NOTHING);
    }

    public int unseal(int r, int x, int k) {
        int term = held(x);
        int key = held(k);
        if (!isRegister(r) || terms.kindOf(term) != SEALED || key == NOTHING) {
            return NONE;
        }
        if (terms.partOf(term, SEAL_KEY) != key) {
            return 0;
        }
        return keep(r, terms.partOf(term, SEAL_BODY));
    }

    public int make(int r, int what, int x, int y) {
        if (!isRegister(r) || held(x) == NOTHING) {
            return NONE;
        }
        return terms.hasRoom() ? keep(r, composed(what, held(x), y)) : FULL;
    }

    public int seal(int r, int k, int h, int b) {
        int key = held(k);
        int head = held(h);
        int body = held(b);
        if (!isRegister(r) || key == NOTHING || head == NOTHING || body == NOTHING) {
            return NONE;
        }
        return terms.hasRoom() ? keep(r, terms.sealed(key, head, body)) : FULL;
    }

    public int alter(int r, int x, int k, int v) {
        int row = held(x);
        if (!isRegister(r) || terms.kindOf(row) != ROW || k < 0 || k > 4) {
            return NONE;
        }
        if (k == 4 && (v < 1 || v > ROW_KINDS)) {
            return NONE;
        }
        if (!terms.hasRoom()) {
            return FULL;
        }
        return keep(r, k == 4 ? terms.withKind(row, v) : terms.withNumber(row, k, v));
    }

    public int swap(int r, int x, int k, int y) {
        int row = held(x);
        int term = held(y);
        if (!isRegister(r) || terms.kindOf(row) != ROW || k < 0 || k > 3) {
            return NONE;
        }
        if (term == NOTHING && y != NONE) {
            return NONE;
        }
        return terms.hasRoom() ? keep(r, terms.withPart(row, k, term)) : FULL;
    }

    public int plant(int d, int place, int r) {
        int term = held(r);
        if (!isDevice(d) || place < 0 || place >= PLACES || (term == NOTHING && r != NONE)) {
            return NONE;
        }
        directory[d * PLACES + place] = term;
        return 1;
    }

    public int look(int d) {
        if (!isDevice(d)) {
            return NONE;
        }
        seenCount = stores[d].copyTerms(seen);
        for (int i = 0; i < seenCount; i++) {
            attacker.give(seen[i]);
        }
        ledger.noteLook(d, terms.draws);
        return seenCount;
    }

    public int same(int x, int y) {
        int a = held(x);
        int b = held(y);
        if (a == NOTHING || b == NOTHING) {
            return NONE;
        }
        return a == b ? 1 : 0;
    }

    public int about(int x, int what) {
        int term = held(x);
        if (term == NOTHING || what < 0 || what > 5) {
            return NONE;
        }
        int kind = terms.kindOf(term);
        if (what == 0) {
            return kind;
        }
        if (what == 1) {
            return kind == MIX || kind == ROW ? terms.markOf(term) : 0;
        }
        return kind == ROW ? terms.numberOf(term, what - 2) : 0;
    }

    public int derived(int l) {
        if (!ledger.has(l)) {
            return NONE;
        }
        return attacker.isKnown(ledger.secretOf(l)) ? 1 : 0;
    }

    // ---- what is told

    public int letter(int w) {
        return wires.has(w) ? wires.letterOf[w] : NONE;
    }

    public int taken(int d, int what) {
        return isDevice(d) ? ledger.lastTaken(d, what) : NONE;
    }

    public int device(int d, int what) {
        if (!isDevice(d)) {
            return NONE;
        }
        Device own = devices[d];
        Store store = stores[d];
        switch (what) {
            case 0:
                return own.prekeys[0].number;
            case 1:
                return own.prekeys[1].number;
            case 2:
                return own.onceCount;
            case 3:
                return own.prekeys[0].baseCount;
            case 4:
                return store.entries();
            case 5:
                return store.termsLying();
            case 6:
                return store.present;
            case 7:
                return store.down ? 1 : 0;
            default:
                return NONE;
        }
    }

    public int session(int d, int p, int k, int what) {
        if (!areTwo(d, p) || k < 0 || k >= devices[d].sessionCount[p]) {
            return NONE;
        }
        return devices[d].sessions[p * MAX_SESSIONS + k].tell(what);
    }

    public int group(int d, int g, int what) {
        if (!isDevice(d) || !isGroup(g)) {
            return NONE;
        }
        return devices[d].memberships[g].tell(what);
    }

    public int count(int what) {
        switch (what) {
            case 0:
                return wires.total;
            case 1:
                return ledger.letters;
            case 2:
                return terms.draws;
            default:
                return NONE;
        }
    }

    public int forged() {
        return ledger.forgedCount;
    }

    public int doubled() {
        return ledger.doubledCount;
    }

    public int leaked() {
        int leaks = 0;
        for (int l = 0; l < ledger.letters; l++) {
            if (attacker.isKnown(ledger.secretOf(l)) && ledger.isSheltered(terms, l)) {
                leaks++;
            }
        }
        return leaks;
    }

    // ---- refusals

    private static boolean isDevice(int d) {
        return d >= 0 && d < DEVICES;
    }

    private static boolean areTwo(int s, int d) {
        return isDevice(s) && isDevice(d) && s != d;
    }

    private static boolean isGroup(int g) {
        return g >= 0 && g < GROUPS;
    }

    private static boolean isRegister(int r) {
        return r >= 0 && r < REGISTERS;
    }

    private static boolean hasBit(int mask, int i) {
        return (mask >> i & 1) != 0;
    }

    private boolean isFull() {
        return MAX_DRAWS - terms.draws < SPARE_DRAWS
                || MAX_WIRES - wires.total < SPARE_WIRES
                || !terms.hasRoom();
    }

    /** What refuses a call in which d makes something; 0 if nothing does. */
    private int refusal(boolean named, int d) {
        if (!named) {
            return NONE;
        }
        if (isFull()) {
            return FULL;
        }
        return stores[d].down ? DOWN : 0;
    }

    // ---- registers

    private int held(int r) {
        return isRegister(r) ? registers[r] : NOTHING;
    }

    private int keep(int r, int term) {
        if (!isRegister(r) || term == NOTHING) {
            return NONE;
        }
        registers[r] = term;
        return 1;
    }

    private int onOffer(int what, int i) {
        switch (what) {
            case 0:
                return wires.has(i) ? wires.termOf[i] : NOTHING;
            case 1:
                return i >= 0 && i < directory.length ? directory[i] : NOTHING;
            case 2:
                return isDevice(i) ? terms.publicOf(identities[i]) : NOTHING;
            case 3:
                return i >= 0 && i < seenCount ? seen[i] : NOTHING;
            default:
                return NOTHING;
        }
    }

    private int composed(int what, int x, int y) {
        int second = held(y);
        if (what >= 0 && what <= 9) {
            return second == NOTHING && y != NONE ? NOTHING : terms.mix(what, x, second);
        }
        if (terms.kindOf(x) != SECRET) {
            return NOTHING;
        }
        if (what == 10) {
            return terms.publicOf(x);
        }
        if (what == 11) {
            return terms.kindOf(second) == PUBLIC ? terms.shared(x, second) : NOTHING;
        }
        return what == 12 && second != NOTHING ? terms.signed(x, second) : NOTHING;
    }

    // ---- what a device does

    private void startWork(int d) {
        work.copyFrom(devices[d]);
        wires.startCall();
    }

    /** Commits the work of d; false if the power was cut, and then nothing may be told. */
    private boolean finish(int d) {
        work.writeEntries(stores[d]);
        int outcome = stores[d].commit();
        if (outcome != LOST) {
            Device old = devices[d];
            devices[d] = work;
            work = old;
        }
        return outcome == DONE;
    }

    private int letterRow(int secret) {
        terms.startRow(ROW_LETTER, 0, 0, 0, 0);
        return terms.endRow(secret, NOTHING, NOTHING, NOTHING);
    }

    private void announceKeys(int d) {
        Device own = devices[d];
        int row = keyRow(ROW_PREKEY, d, own.prekeys[0].number, own.prekeys[0].secret);
        announce(d, 0, terms.signed(own.identity, row));
        for (int i = 0; i < own.onceCount; i++) {
            announce(d, i + 1, keyRow(ROW_ONCE, d, own.onceNumbers[i], own.once[i]));
        }
    }

    private void announce(int d, int place, int term) {
        directory[d * PLACES + place] = term;
        attacker.give(term);
    }

    private int keyRow(int kind, int d, int number, int secret) {
        terms.startRow(kind, d, number, 0, 0);
        return terms.endRow(terms.publicOf(secret), NOTHING, NOTHING, NOTHING);
    }

    /** Begins a session in the work of s; null if it can't begin. */
    private Session openSession(int s, int d) {
        int p = announcedPrekey(d);
        if (p == NOTHING) {
            return null;
        }
        int o = takeAnnouncedOnce(d);
        int e = terms.secret(s, FOR_ELSE);
        int r = terms.secret(s, FOR_MINE);
        int theirIdentity = terms.publicOf(identities[d]);
        int a = terms.mix(0, terms.shared(work.identity, p), terms.shared(e, theirIdentity));
        int b = terms.mix(1, a, terms.shared(e, p));
        int c = o == NOTHING ? terms.mix(3, b, NOTHING) : terms.mix(2, b, terms.shared(e, o));
        Session made = work.addSession(d);
        made.start(terms.publicOf(e), r, c, o != NOTHING);
        made.bear(terms, p, o);
        return made;
    }

    /** The PUBLIC that place 0 of d announces, or NOTHING if d has not signed it. */
    private int announcedPrekey(int d) {
        int term = directory[d * PLACES];
        int row = terms.partOf(term, SIGN_TEXT);
        boolean good = terms.kindOf(term) == SIGNED
                && terms.partOf(term, SIGN_BY) == identities[d]
                && terms.isGood(row, ROW_PREKEY)
                && terms.numberOf(row, 0) == d;
        return good ? terms.partOf(row, 0) : NOTHING;
    }

    private int takeAnnouncedOnce(int d) {
        for (int i = d * PLACES + 1; i < (d + 1) * PLACES; i++) {
            int row = directory[i];
            if (row != NOTHING) {
                directory[i] = NOTHING;
                boolean good = terms.isGood(row, ROW_ONCE) && terms.numberOf(row, 0) == d;
                return good ? terms.partOf(row, 0) : NOTHING;
            }
        }
        return NOTHING;
    }

    private void handOut(int s, int g, Membership own) {
        int gift = own.giftRow(terms, g);
        for (int p = 0; p < DEVICES; p++) {
            if (p == s || !hasBit(own.mask, p) || hasBit(own.gave, p)) {
                continue;
            }
            Session way = work.firstSession(p);
            if (way == null) {
                way = openSession(s, p);
            }
            if (way != null) {
                way.turnToSend(terms, s);
                wires.add(way.nextWire(terms, s, p, gift));
                own.gave |= 1 << p;
            }
        }
    }

    // ---- what a device takes

    private int arrive(int d, int term) {
        if (stores[d].down) {
            return DOWN;
        }
        if (!terms.hasRoom()) {
            return FULL;
        }
        startWork(d);
        int answer = NO_FORM;
        switch (formOf(term)) {
            case ROW_SESSION:
                answer = takeSealed(d, term);
                break;
            case ROW_LIST:
                answer = takeList(d, term);
                break;
            case ROW_POST:
                answer = takePost(d, term);
                break;
            default:
                break;
        }
        if (answer < 0) {
            return answer;
        }
        if (!finish(d)) {
            return CRASHED;
        }
        if (answer == A_LETTER) {
            ledger.noteTaken(terms, d);
        }
        return answer;
    }

    /** The KIND of the GOOD ROW that tells how a term is taken; 0 if it has none of the forms. */
    private int formOf(int term) {
        int kind = terms.kindOf(term);
        if (kind == SEALED) {
            return terms.isGood(terms.partOf(term, SEAL_HEAD), ROW_SESSION) ? ROW_SESSION : 0;
        }
        if (kind != SIGNED) {
            return 0;
        }
        int text = terms.partOf(term, SIGN_TEXT);
        if (terms.isGood(text, ROW_LIST)) {
            return ROW_LIST;
        }
        boolean isPost = terms.kindOf(text) == SEALED
                && terms.isGood(terms.partOf(text, SEAL_HEAD), ROW_POST);
        return isPost ? ROW_POST : 0;
    }

    private int takeSealed(int d, int term) {
        int head = terms.partOf(term, SEAL_HEAD);
        int from = terms.numberOf(head, 0);
        if (terms.numberOf(head, 1) != d || from == d) {
            return NOT_FOR_IT;
        }
        Session way = work.findSession(from, terms.partOf(head, 0));
        if (way == null) {
            way = answerSession(from, head);
        }
        if (way == null) {
            return NO_SESSION;
        }
        int index = terms.numberOf(head, 2);
        int key = way.inbound.takeLeft(terms.partOf(head, 1), index);
        if (key == NOTHING && way.follow(terms, head)) {
            key = way.inbound.nextKey(terms, index);
        }
        if (key == NOTHING) {
            return OUT_OF_REACH;
        }
        if (key != terms.partOf(term, SEAL_KEY)) {
            return WRONG_KEY;
        }
        way.bears = false;
        work.putFirst(from, way);
        return takeBody(from, terms.partOf(term, SEAL_BODY), way.oneTime);
    }

    private int takeBody(int from, int body, boolean oneTime) {
        if (terms.isGood(body, ROW_LETTER)) {
            ledger.expect(from, NONE, terms.partOf(body, 0), oneTime);
            return A_LETTER;
        }
        if (terms.isGood(body, ROW_GIFT)) {
            work.memberships[terms.numberOf(body, 0)].accept(terms, from, body, oneTime);
            return A_GIFT;
        }
        return WRONG_BODY;
    }

    /** Makes the session that a head asks for; null if the keys that it names are not there. */
    private Session answerSession(int from, int head) {
        int base = terms.partOf(head, 0);
        Prekey prekey = work.findPrekey(terms, terms.partOf(head, 2));
        if (prekey == null) {
            return null;
        }
        boolean oneTime = terms.partOf(head, 3) != NOTHING;
        int once = work.takeOnce(terms, terms.partOf(head, 3));
        if (oneTime ? once == NOTHING : !prekey.addBase(base)) {
            return null;
        }
        int theirIdentity = terms.publicOf(identities[from]);
        int first = terms.shared(prekey.secret, theirIdentity);
        int a = terms.mix(0, first, terms.shared(work.identity, base));
        int b = terms.mix(1, a, terms.shared(prekey.secret, base));
        int c = oneTime ? terms.mix(2, b, terms.shared(once, base)) : terms.mix(3, b, NOTHING);
        Session made = work.addSession(from);
        made.start(base, prekey.secret, c, oneTime);
        return made;
    }

    private int takeList(int d, int term) {
        int row = terms.partOf(term, SIGN_TEXT);
        int g = terms.numberOf(row, 0);
        int version = terms.numberOf(row, 1);
        int mask = terms.numberOf(row, 2);
        Membership own = work.memberships[g];
        boolean wrong = d == g
                || terms.partOf(term, SIGN_BY) != identities[g]
                || version <= own.version
                || !hasBit(mask, g)
                || !hasBit(mask, d)
                || (mask & own.gone) != 0;
        if (wrong) {
            return WRONG_LIST;
        }
        own.adopt(version, mask);
        return A_LIST;
    }

    private int takePost(int d, int term) {
        int sealed = terms.partOf(term, SIGN_TEXT);
        int head = terms.partOf(sealed, SEAL_HEAD);
        int g = terms.numberOf(head, 0);
        int from = terms.numberOf(head, 1);
        if (from == d) {
            return NOT_FOR_IT;
        }
        Membership own = work.memberships[g];
        Given given = own.find(from, terms.numberOf(head, 2));
        if (!hasBit(own.mask, from) || given == null) {
            return NO_GROUP_KEY;
        }
        if (terms.publicOf(terms.partOf(term, SIGN_BY)) != given.inbound.theirs) {
            return WRONG_KEY;
        }
        int index = terms.numberOf(head, 3);
        int key = given.inbound.takeLeft(given.inbound.theirs, index);
        if (key == NOTHING) {
            key = given.inbound.nextKey(terms, index);
        }
        if (key == NOTHING) {
            return OUT_OF_REACH;
        }
        if (key != terms.partOf(sealed, SEAL_KEY)) {
            return WRONG_KEY;
        }
        int body = terms.partOf(sealed, SEAL_BODY);
        if (!terms.isGood(body, ROW_LETTER)) {
            return WRONG_BODY;
        }
        ledger.expect(from, g, terms.partOf(body, 0), given.oneTime);
        return A_LETTER;
    }

    /**
     * All terms ever made, each in one row of cells, so that terms made alike have one number.
     * Term 0 is NOTHING.
     */
    private static final class Terms {
        private static final int KIND = 0;
        private static final int MARK = 1;
        private static final int NUMBER = 2;
        private static final int PART = 6;
        // what tells two terms apart lies ahead of this cell
        private static final int NEXT_IN_BUCKET = 10;
        private static final int WIDTH = 11;
        private static final int BUCKETS = 4_096;
        private static final int FIRST_ROOM = 1_024;
        // no call makes as many terms, and 512 calls don't make as many as the last room has
        private static final int CALL_ROOM = 256;
        private static final int LAST_ROOM = 65_536;

        private int[] cells = new int[FIRST_ROOM * WIDTH];
        private final int[] buckets = new int[BUCKETS];
        private final int[] draft = new int[NEXT_IN_BUCKET];
        private int room = FIRST_ROOM;
        private int size = 1;
        private int draws;

        /** Makes room for one call's terms; false if there is none, far behind the 512th call. */
        boolean hasRoom() {
            if (size + CALL_ROOM <= room) {
                return true;
            }
            if (room >= LAST_ROOM) {
                return false;
            }
            room *= 2;
            cells = Arrays.copyOf(cells, room * WIDTH);
            return true;
        }

        int kindOf(int t) {
            return t > NOTHING && t < size ? cells[t * WIDTH + KIND] : 0;
        }

        /** n of a MIX, the KIND of a ROW, which draw it was of a SECRET. */
        int markOf(int t) {
            return t > NOTHING && t < size ? cells[t * WIDTH + MARK] : 0;
        }

        int numberOf(int t, int i) {
            boolean there = t > NOTHING && t < size && i >= 0 && i < PARTS;
            return there ? cells[t * WIDTH + NUMBER + i] : 0;
        }

        int partOf(int t, int i) {
            boolean there = t > NOTHING && t < size && i >= 0 && i < PARTS;
            return there ? cells[t * WIDTH + PART + i] : NOTHING;
        }

        int drawnBy(int secret) {
            return numberOf(secret, 0);
        }

        int drawnFor(int secret) {
            return numberOf(secret, 1);
        }

        int secret(int drawer, int purpose) {
            startDraft(SECRET, draws);
            draws++;
            draft[NUMBER] = drawer;
            draft[NUMBER + 1] = purpose;
            int made = intern();
            // its PUBLIC lies behind it, so that none has to be searched for
            startDraft(PUBLIC, 0);
            draft[PART] = made;
            intern();
            return made;
        }

        int publicOf(int secret) {
            return kindOf(secret) == SECRET ? secret + 1 : NOTHING;
        }

        /** SHARED of a secret and the one that a PUBLIC is of; its PUBLICS help to derive it. */
        int shared(int secret, int pub) {
            int other = partOf(pub, 0);
            if (secret == NOTHING || other == NOTHING) {
                return NOTHING;
            }
            int a = Math.min(secret, other);
            int b = Math.max(secret, other);
            startDraft(SHARED, 0);
            draft[PART] = a;
            draft[PART + 1] = b;
            draft[PART + 2] = a + 1;
            draft[PART + 3] = b + 1;
            return intern();
        }

        int mix(int n, int a, int b) {
            startDraft(MIX, n);
            draft[PART] = a;
            draft[PART + 1] = b;
            return intern();
        }

        int sealed(int key, int head, int body) {
            startDraft(SEALED, 0);
            draft[PART + SEAL_KEY] = key;
            draft[PART + SEAL_HEAD] = head;
            draft[PART + SEAL_BODY] = body;
            return intern();
        }

        int signed(int secret, int text) {
            startDraft(SIGNED, 0);
            draft[PART + SIGN_BY] = secret;
            draft[PART + SIGN_TEXT] = text;
            return intern();
        }

        /** A row is made in two steps, as it has too many numbers and terms for one. */
        void startRow(int kind, int a, int b, int c, int d) {
            startDraft(ROW, kind);
            draft[NUMBER] = a;
            draft[NUMBER + 1] = b;
            draft[NUMBER + 2] = c;
            draft[NUMBER + 3] = d;
        }

        int endRow(int a, int b, int c, int d) {
            draft[PART] = a;
            draft[PART + 1] = b;
            draft[PART + 2] = c;
            draft[PART + 3] = d;
            return intern();
        }

        int withKind(int row, int kind) {
            return changed(row, MARK, kind);
        }

        int withNumber(int row, int i, int v) {
            return changed(row, NUMBER + i, v);
        }

        int withPart(int row, int i, int term) {
            return changed(row, PART + i, term);
        }

        private int changed(int row, int cell, int v) {
            if (row <= NOTHING || row >= size || cell < 0 || cell >= draft.length) {
                return NOTHING;
            }
            System.arraycopy(cells, row * WIDTH, draft, 0, draft.length);
            draft[cell] = v;
            return intern();
        }

        private void startDraft(int kind, int mark) {
            Arrays.fill(draft, 0);
            draft[KIND] = kind;
            draft[MARK] = mark;
        }

        /** The term that is as the draft says: the one there is, or another one. */
        private int intern() {
            int hash = 0;
            for (int i = 0; i < draft.length; i++) {
                hash = hash * 31 + draft[i];
            }
            int slot = (hash ^ hash >>> 12 ^ hash >>> 24) & BUCKETS - 1;
            int t = buckets[slot];
            for (int tried = 0; tried < size && t != NOTHING; tried++) {
                int alike = 0;
                while (alike < draft.length && cells[t * WIDTH + alike] == draft[alike]) {
                    alike++;
                }
                if (alike == draft.length) {
                    return t;
                }
                t = cells[t * WIDTH + NEXT_IN_BUCKET];
            }
            if (size >= room) {
                return NOTHING;
            }
            System.arraycopy(draft, 0, cells, size * WIDTH, draft.length);
            cells[size * WIDTH + NEXT_IN_BUCKET] = buckets[slot];
            buckets[slot] = size;
            size++;
            return size - 1;
        }

        boolean isGood(int t, int kind) {
            if (kindOf(t) != ROW || markOf(t) != kind) {
                return false;
            }
            return hasGoodNumbers(t, kind) && hasGoodParts(t, kind);
        }

        private boolean hasGoodNumbers(int t, int kind) {
            int a = numberOf(t, 0);
            int b = numberOf(t, 1);
            int c = numberOf(t, 2);
            int d = numberOf(t, 3);
            switch (kind) {
                case ROW_PREKEY:
                case ROW_ONCE:
                    return isDevice(a) && c == 0 && d == 0;
                case ROW_SESSION:
                    return isDevice(a) && isDevice(b) && isIndex(c) && isIndex(d);
                case ROW_LETTER:
                    return a == 0 && b == 0 && c == 0 && d == 0;
                case ROW_GIFT:
                    return isGroup(a) && b >= 1 && isIndex(c) && d == 0;
                case ROW_LIST:
                    return isGroup(a) && b >= 1 && c >= 0 && c < MASKS && d == 0;
                case ROW_POST:
                    return isGroup(a) && isDevice(b) && c >= 1 && isIndex(d);
                default:
                    return false;
            }
        }

        private boolean hasGoodParts(int t, int kind) {
            int a = partOf(t, 0);
            int b = partOf(t, 1);
            int c = partOf(t, 2);
            int d = partOf(t, 3);
            if (kind == ROW_SESSION) {
                boolean bearing = kindOf(c) == PUBLIC && (d == NOTHING || kindOf(d) == PUBLIC);
                boolean bare = c == NOTHING && d == NOTHING;
                return kindOf(a) == PUBLIC && kindOf(b) == PUBLIC && (bearing || bare);
            }
            if (c != NOTHING || d != NOTHING) {
                return false;
            }
            switch (kind) {
                case ROW_PREKEY:
                case ROW_ONCE:
                    return kindOf(a) == PUBLIC && b == NOTHING;
                case ROW_LETTER:
                    return a != NOTHING && b == NOTHING;
                case ROW_GIFT:
                    return a != NOTHING && kindOf(b) == PUBLIC;
                default:
                    return a == NOTHING && b == NOTHING;
            }
        }

        private static boolean isIndex(int i) {
            return i >= 0 && i < INDEXES;
        }
    }

    /**
     * Which terms are DERIVED. A term made later never tells more of those made before it, so it is
     * enough to look at new terms when something is given.
     */
    private static final class Knowledge {
        private static final int KNOWN = 0;
        private static final int FIRST_USE = 1;
        private static final int NEXT_USE = 2;
        private static final int WIDTH = NEXT_USE + PARTS;

        private final Terms terms;
        private int[] cells;
        private int[] learned;
        private int learnedCount;
        private int spreadCount;
        private int linkedCount = 1;

        Knowledge(Terms allTerms) {
            terms = allTerms;
            cells = new int[allTerms.room * WIDTH];
            learned = new int[allTerms.room];
        }

        boolean isKnown(int t) {
            return t == NOTHING || t > NOTHING && t < linkedCount && cells[t * WIDTH + KNOWN] != 0;
        }

        /** The attacker gets a term, and all that can be derived with it. */
        void give(int t) {
            linkNewTerms();
            learn(t);
            for (; spreadCount < learnedCount && spreadCount < linkedCount; spreadCount++) {
                openUp(learned[spreadCount]);
                tryUses(learned[spreadCount]);
            }
        }

        private void linkNewTerms() {
            if (learned.length < terms.room) {
                cells = Arrays.copyOf(cells, terms.room * WIDTH);
                learned = Arrays.copyOf(learned, terms.room);
            }
            for (; linkedCount < terms.size; linkedCount++) {
                for (int i = 0; i < PARTS; i++) {
                    link(linkedCount, i);
                }
                if (canBeMade(linkedCount)) {
                    learn(linkedCount);
                }
            }
        }

        private void link(int user, int i) {
            int used = terms.partOf(user, i);
            if (used != NOTHING) {
                cells[user * WIDTH + NEXT_USE + i] = cells[used * WIDTH + FIRST_USE];
                cells[used * WIDTH + FIRST_USE] = user * PARTS + i;
            }
        }

        private void learn(int t) {
            if (t <= NOTHING || t >= terms.size || learnedCount >= learned.length) {
                return;
            }
            if (cells[t * WIDTH + KNOWN] == 0) {
                cells[t * WIDTH + KNOWN] = 1;
                learned[learnedCount] = t;
                learnedCount++;
            }
        }

        private void openUp(int t) {
            int kind = terms.kindOf(t);
            if (kind == ROW) {
                for (int i = 0; i < PARTS; i++) {
                    learn(terms.partOf(t, i));
                }
            } else if (kind == SIGNED) {
                learn(terms.partOf(t, SIGN_TEXT));
            } else if (kind == SEALED) {
                learn(terms.partOf(t, SEAL_HEAD));
                if (isKnown(terms.partOf(t, SEAL_KEY))) {
                    learn(terms.partOf(t, SEAL_BODY));
                }
            }
        }

        private void tryUses(int t) {
            int use = cells[t * WIDTH + FIRST_USE];
            for (int i = 0; i < linkedCount * PARTS && use != 0; i++) {
                int user = use / PARTS;
                if (!isKnown(user)) {
                    if (canBeMade(user)) {
                        learn(user);
                    }
                } else if (terms.kindOf(user) == SEALED && terms.partOf(user, SEAL_KEY) == t) {
                    learn(terms.partOf(user, SEAL_BODY));
                }
                use = cells[user * WIDTH + NEXT_USE + use % PARTS];
            }
        }

        private boolean canBeMade(int t) {
            boolean first = isKnown(terms.partOf(t, 0));
            boolean second = isKnown(terms.partOf(t, 1));
            boolean third = isKnown(terms.partOf(t, 2));
            boolean fourth = isKnown(terms.partOf(t, 3));
            int kind = terms.kindOf(t);
            if (kind == SHARED) {
                return first && fourth || second && third;
            }
            return kind != SECRET && first && second && third && fourth;
        }
    }

    /** A chain that keys are received on, with the keys that were left behind on it. */
    private static final class Inbound {
        private static final int LEFT_PUBLIC = 0;
        private static final int LEFT_INDEX = 1;
        private static final int LEFT_KEY = 2;
        private static final int WIDTH = 3;

        private final int[] left = new int[MAX_LEFT * WIDTH];
        private int leftCount;
        private int theirs;
        private int chain;
        private int next;

        void copyFrom(Inbound other) {
            theirs = other.theirs;
            chain = other.chain;
            next = other.next;
            leftCount = other.leftCount;
            System.arraycopy(other.left, 0, left, 0, leftCount * WIDTH);
        }

        void start(int newTheirs, int newChain, int newNext) {
            theirs = newTheirs;
            chain = newChain;
            next = newNext;
            leftCount = 0;
        }

        int leftPublic(int i) {
            return i >= 0 && i < leftCount ? left[i * WIDTH + LEFT_PUBLIC] : NOTHING;
        }

        int leftKey(int i) {
            return i >= 0 && i < leftCount ? left[i * WIDTH + LEFT_KEY] : NOTHING;
        }

        /** Takes out the oldest key left for this PUBLIC and index; NOTHING without one. */
        int takeLeft(int pub, int index) {
            for (int i = 0; i < leftCount; i++) {
                if (leftPublic(i) == pub && left[i * WIDTH + LEFT_INDEX] == index) {
                    int key = leftKey(i);
                    removeLeft(i);
                    return key;
                }
            }
            return NOTHING;
        }

        private void removeLeft(int i) {
            leftCount--;
            System.arraycopy(left, (i + 1) * WIDTH, left, i * WIDTH, (leftCount - i) * WIDTH);
        }

        /** False, with nothing done, if the index is too far ahead. */
        boolean skipTo(Terms terms, int index) {
            if (index - next > MAX_SKIP) {
                return false;
            }
            for (int i = 0; i < MAX_SKIP && next < index; i++) {
                if (leftCount == MAX_LEFT) {
                    removeLeft(0);
                }
                left[leftCount * WIDTH + LEFT_PUBLIC] = theirs;
                left[leftCount * WIDTH + LEFT_INDEX] = next;
                left[leftCount * WIDTH + LEFT_KEY] = terms.mix(6, chain, NOTHING);
                leftCount++;
                chain = terms.mix(7, chain, NOTHING);
                next++;
            }
            return true;
        }

        /** The key at an index that is not left behind; NOTHING if it is out of reach. */
        int nextKey(Terms terms, int index) {
            if (index < next || !skipTo(terms, index)) {
                return NOTHING;
            }
            int key = terms.mix(6, chain, NOTHING);
            chain = terms.mix(7, chain, NOTHING);
            next++;
            return key;
        }
    }

    /** What one device has of a session with another one. */
    private static final class Session {
        private final Inbound inbound = new Inbound();
        private int base;
        private int root;
        private int mine;
        private int sending;
        private int sent;
        private int before;
        private boolean bears;
        private int bornePrekey;
        private int borneOnce;
        private boolean oneTime;

        void copyFrom(Session other) {
            inbound.copyFrom(other.inbound);
            base = other.base;
            root = other.root;
            mine = other.mine;
            sending = other.sending;
            sent = other.sent;
            before = other.before;
            bears = other.bears;
            bornePrekey = other.bornePrekey;
            borneOnce = other.borneOnce;
            oneTime = other.oneTime;
        }

        void start(int newBase, int newMine, int newRoot, boolean withOneTime) {
            inbound.start(NOTHING, NOTHING, 0);
            base = newBase;
            mine = newMine;
            root = newRoot;
            sending = NOTHING;
            sent = 0;
            before = 0;
            bears = false;
            oneTime = withOneTime;
        }

        /** The side that begins can send at once, and tells which keys it took. */
        void bear(Terms terms, int prekey, int once) {
            int both = terms.shared(mine, prekey);
            sending = terms.mix(5, root, both);
            root = terms.mix(4, root, both);
            inbound.theirs = prekey;
            bears = true;
            bornePrekey = prekey;
            borneOnce = once;
        }

        void turnToSend(Terms terms, int s) {
            if (sending != NOTHING) {
                return;
            }
            before = sent;
            sent = 0;
            mine = terms.secret(s, FOR_MINE);
            int both = terms.shared(mine, inbound.theirs);
            sending = terms.mix(5, root, both);
            root = terms.mix(4, root, both);
        }

        int nextWire(Terms terms, int s, int d, int body) {
            int prekey = bears ? bornePrekey : NOTHING;
            int once = bears ? borneOnce : NOTHING;
            terms.startRow(ROW_SESSION, s, d, sent, before);
            int head = terms.endRow(base, terms.publicOf(mine), prekey, once);
            int key = terms.mix(6, sending, NOTHING);
            sending = terms.mix(7, sending, NOTHING);
            sent++;
            return terms.sealed(key, head, body);
        }

        /** Goes over to the chain of a head's key; false if too many would be left behind. */
        boolean follow(Terms terms, int head) {
            int pub = terms.partOf(head, 1);
            int end = terms.numberOf(head, 3);
            if (pub == inbound.theirs && inbound.chain != NOTHING) {
                return true;
            }
            boolean skips = inbound.chain != NOTHING && end > inbound.next;
            if (skips && !inbound.skipTo(terms, end)) {
                return false;
            }
            turnToReceive(terms, pub);
            return true;
        }

        private void turnToReceive(Terms terms, int pub) {
            int both = terms.shared(mine, pub);
            inbound.chain = terms.mix(5, root, both);
            root = terms.mix(4, root, both);
            inbound.theirs = pub;
            inbound.next = 0;
            sending = NOTHING;
        }

        void writeEntries(Store store) {
            store.put(base, NOTHING);
            store.put(root, NOTHING);
            store.put(mine, NOTHING);
            store.putIfAny(inbound.theirs);
            store.putIfAny(sending);
            store.putIfAny(inbound.chain);
            if (bears) {
                store.put(bornePrekey, borneOnce);
            }
            for (int i = 0; i < inbound.leftCount; i++) {
                store.put(inbound.leftKey(i), inbound.leftPublic(i));
            }
        }

        int tell(int what) {
            switch (what) {
                case 0:
                    return sent;
                case 1:
                    return before;
                case 2:
                    return inbound.next;
                case 3:
                    return inbound.leftCount;
                case 4:
                    return bears ? 1 : 0;
                case 5:
                    return sending != NOTHING ? 1 : 0;
                case 6:
                    return inbound.chain != NOTHING ? 1 : 0;
                default:
                    return NONE;
            }
        }
    }

    /** A key of a group that another device gave. */
    private static final class Given {
        private final Inbound inbound = new Inbound();
        private int generation;
        private boolean oneTime;

        void copyFrom(Given other) {
            inbound.copyFrom(other.inbound);
            generation = other.generation;
            oneTime = other.oneTime;
        }

        void writeEntries(Store store) {
            store.put(inbound.chain, inbound.theirs);
            for (int i = 0; i < inbound.leftCount; i++) {
                store.put(inbound.leftKey(i), NOTHING);
            }
        }
    }

    /** What one device has of a group. */
    private static final class Membership {
        private final int[] givenCount = new int[DEVICES];
        private final Given[] given = new Given[DEVICES * MAX_GIVEN];
        private int version;
        private int mask;
        private int gone;
        private int generation;
        private int chain;
        private int signer;
        private int index;
        private int gave;
        private boolean stale;

        Membership() {
            for (int i = 0; i < given.length; i++) {
                given[i] = new Given();
            }
        }

        void copyFrom(Membership other) {
            version = other.version;
            mask = other.mask;
            gone = other.gone;
            generation = other.generation;
            chain = other.chain;
            signer = other.signer;
            index = other.index;
            gave = other.gave;
            stale = other.stale;
            for (int p = 0; p < DEVICES; p++) {
                givenCount[p] = other.givenCount[p];
                for (int k = 0; k < givenCount[p]; k++) {
                    given[p * MAX_GIVEN + k].copyFrom(other.given[p * MAX_GIVEN + k]);
                }
            }
        }

        /** A new list comes. */
        void adopt(int newVersion, int newMask) {
            int leaving = mask & ~newMask;
            for (int p = 0; p < DEVICES; p++) {
                if (hasBit(leaving, p)) {
                    givenCount[p] = 0;
                }
            }
            if (leaving != 0) {
                stale = true;
            }
            gone |= leaving;
            version = newVersion;
            mask = newMask;
        }

        void renewChain(Terms terms, int s) {
            if (generation != 0 && !stale) {
                return;
            }
            generation++;
            chain = terms.secret(s, FOR_ELSE);
            signer = terms.secret(s, FOR_ELSE);
            index = 0;
            gave = 0;
            stale = false;
        }

        int giftRow(Terms terms, int g) {
            terms.startRow(ROW_GIFT, g, generation, index, 0);
            return terms.endRow(chain, terms.publicOf(signer), NOTHING, NOTHING);
        }

        int nextPost(Terms terms, int g, int s, int body) {
            terms.startRow(ROW_POST, g, s, generation, index);
            int head = terms.endRow(NOTHING, NOTHING, NOTHING, NOTHING);
            int key = terms.mix(6, chain, NOTHING);
            chain = terms.mix(7, chain, NOTHING);
            index++;
            return terms.signed(signer, terms.sealed(key, head, body));
        }

        /** A gift comes; one that is not above those that are here is passed over. */
        void accept(Terms terms, int from, int gift, boolean oneTime) {
            int newGeneration = terms.numberOf(gift, 1);
            int at = from * MAX_GIVEN;
            for (int k = 0; k < givenCount[from]; k++) {
                if (given[at + k].generation >= newGeneration) {
                    return;
                }
            }
            Given newest = given[at + MAX_GIVEN - 1];
            given[at + 1] = given[at];
            given[at] = newest;
            newest.generation = newGeneration;
            newest.oneTime = oneTime;
            newest.inbound.start(
                    terms.partOf(gift, 1), terms.partOf(gift, 0), terms.numberOf(gift, 2));
            givenCount[from] = Math.min(givenCount[from] + 1, MAX_GIVEN);
        }

        Given find(int from, int wanted) {
            for (int k = 0; k < givenCount[from]; k++) {
                if (given[from * MAX_GIVEN + k].generation == wanted) {
                    return given[from * MAX_GIVEN + k];
                }
            }
            return null;
        }

        void writeEntries(Store store) {
            if (generation > 0) {
                store.put(chain, signer);
            }
            for (int p = 0; p < DEVICES; p++) {
                for (int k = 0; k < givenCount[p]; k++) {
                    given[p * MAX_GIVEN + k].writeEntries(store);
                }
            }
        }

        int tell(int what) {
            switch (what) {
                case 0:
                    return version;
                case 1:
                    return mask;
                case 2:
                    return gone;
                case 3:
                    return generation;
                case 4:
                    return index;
                case 5:
                    return gave;
                case 6:
                    return stale ? 1 : 0;
                default:
                    return tellGiven(what / 10, what % 10);
            }
        }

        private int tellGiven(int what, int p) {
            if (!isDevice(p) || what < 1 || what > 4) {
                return NONE;
            }
            if (what == 1) {
                return givenCount[p];
            }
            if (givenCount[p] == 0) {
                return NONE;
            }
            Given first = given[p * MAX_GIVEN];
            if (what == 2) {
                return first.generation;
            }
            return what == 3 ? first.inbound.next : first.inbound.leftCount;
        }
    }

    /** A PREKEY with the BASES that came by it without a one-time key. Number 0: there is none. */
    private static final class Prekey {
        private final int[] bases = new int[MAX_BASES];
        private int baseCount;
        private int secret;
        private int number;

        void copyFrom(Prekey other) {
            secret = other.secret;
            number = other.number;
            baseCount = other.baseCount;
            System.arraycopy(other.bases, 0, bases, 0, MAX_BASES);
        }

        void start(int newSecret, int newNumber) {
            secret = newSecret;
            number = newNumber;
            baseCount = 0;
        }

        /** False if the base came before, or no more bases may come. */
        boolean addBase(int base) {
            for (int i = 0; i < baseCount; i++) {
                if (bases[i] == base) {
                    return false;
                }
            }
            if (baseCount >= MAX_BASES) {
                return false;
            }
            bases[baseCount] = base;
            baseCount++;
            return true;
        }

        void writeEntries(Store store) {
            if (number == 0) {
                return;
            }
            store.put(secret, NOTHING);
            for (int i = 0; i < baseCount; i++) {
                store.put(bases[i], NOTHING);
            }
        }
    }

    /** All that a device has, as its store's present half says it. */
    private static final class Device {
        private final Prekey[] prekeys = {new Prekey(), new Prekey()};
        private final int[] once = new int[MAX_ONCE];
        private final int[] onceNumbers = new int[MAX_ONCE];
        private final int[] sessionCount = new int[DEVICES];
        private final Session[] sessions = new Session[DEVICES * MAX_SESSIONS];
        private final Membership[] memberships = new Membership[GROUPS];
        private int identity;
        private int onceCount;
        private int lastNumber;

        Device() {
            for (int i = 0; i < sessions.length; i++) {
                sessions[i] = new Session();
            }
            for (int g = 0; g < GROUPS; g++) {
                memberships[g] = new Membership();
            }
        }

        void copyFrom(Device other) {
            identity = other.identity;
            lastNumber = other.lastNumber;
            prekeys[0].copyFrom(other.prekeys[0]);
            prekeys[1].copyFrom(other.prekeys[1]);
            onceCount = other.onceCount;
            System.arraycopy(other.once, 0, once, 0, MAX_ONCE);
            System.arraycopy(other.onceNumbers, 0, onceNumbers, 0, MAX_ONCE);
            for (int p = 0; p < DEVICES; p++) {
                sessionCount[p] = other.sessionCount[p];
                for (int k = 0; k < sessionCount[p]; k++) {
                    int at = p * MAX_SESSIONS + k;
                    sessions[at].copyFrom(other.sessions[at]);
                }
            }
            for (int g = 0; g < GROUPS; g++) {
                memberships[g].copyFrom(other.memberships[g]);
            }
        }

        void renewKeys(Terms terms, int d) {
            Prekey newest = prekeys[1];
            prekeys[1] = prekeys[0];
            prekeys[0] = newest;
            lastNumber++;
            newest.start(terms.secret(d, FOR_PREKEY), lastNumber);
            for (; onceCount < MAX_ONCE; onceCount++) {
                lastNumber++;
                once[onceCount] = terms.secret(d, FOR_ELSE);
                onceNumbers[onceCount] = lastNumber;
            }
        }

        Prekey findPrekey(Terms terms, int pub) {
            for (int i = 0; i < prekeys.length; i++) {
                if (prekeys[i].number > 0 && terms.publicOf(prekeys[i].secret) == pub) {
                    return prekeys[i];
                }
            }
            return null;
        }

        /** Takes out the one-time key that a PUBLIC is of; NOTHING without one. */
        int takeOnce(Terms terms, int pub) {
            for (int i = 0; i < onceCount; i++) {
                int secret = once[i];
                if (terms.publicOf(secret) == pub) {
                    onceCount--;
                    for (int j = i; j < onceCount; j++) {
                        once[j] = once[j + 1];
                        onceNumbers[j] = onceNumbers[j + 1];
                    }
                    return secret;
                }
            }
            return NOTHING;
        }

        Session firstSession(int p) {
            return sessionCount[p] > 0 ? sessions[p * MAX_SESSIONS] : null;
        }

        Session findSession(int p, int base) {
            for (int k = 0; k < sessionCount[p]; k++) {
                if (sessions[p * MAX_SESSIONS + k].base == base) {
                    return sessions[p * MAX_SESSIONS + k];
                }
            }
            return null;
        }

        /** Another session comes as the first one; of three the last one goes. */
        Session addSession(int p) {
            Session newest = sessions[p * MAX_SESSIONS + 1];
            putFirst(p, newest);
            sessionCount[p] = Math.min(sessionCount[p] + 1, MAX_SESSIONS);
            return newest;
        }

        void putFirst(int p, Session chosen) {
            int at = p * MAX_SESSIONS;
            if (sessions[at] != chosen) {
                sessions[at + 1] = sessions[at];
                sessions[at] = chosen;
            }
        }

        void writeEntries(Store store) {
            store.startEntries();
            store.put(identity, NOTHING);
            prekeys[0].writeEntries(store);
            prekeys[1].writeEntries(store);
            for (int i = 0; i < onceCount; i++) {
                store.put(once[i], NOTHING);
            }
            for (int p = 0; p < DEVICES; p++) {
                for (int k = 0; k < sessionCount[p]; k++) {
                    sessions[p * MAX_SESSIONS + k].writeEntries(store);
                }
            }
            for (int g = 0; g < GROUPS; g++) {
                memberships[g].writeEntries(store);
            }
        }
    }

    /** The blocks of a device: of each half the entries from .. to lie there. */
    private static final class Store {
        private final int[][] halves = new int[2][2 * MAX_ENTRIES];
        private final int[] from = new int[2];
        private final int[] to = new int[2];
        private int written;
        private int present;
        private int cut = NONE;
        private boolean down;

        Store(int identity) {
            halves[0][0] = identity;
            to[0] = 1;
        }

        void startEntries() {
            written = 0;
        }

        void put(int first, int second) {
            if (written < MAX_ENTRIES) {
                halves[1 - present][2 * written] = first;
                halves[1 - present][2 * written + 1] = second;
                written++;
            }
        }

        void putIfAny(int term) {
            if (term != NOTHING) {
                put(term, NOTHING);
            }
        }

        private static int blocks(int entries) {
            return (entries + BLOCK - 1) / BLOCK;
        }

        /** Makes the writes that the power lasts for. */
        int commit() {
            int other = 1 - present;
            int newBlocks = blocks(written);
            int all = newBlocks + 1 + blocks(to[present]);
            int made = cut == NONE ? all : Math.min(cut, all);
            cut = NONE;
            down = made < all;
            from[other] = 0;
            to[other] = Math.min(written, made * BLOCK);
            if (made <= newBlocks) {
                return LOST;
            }
            int emptied = made - newBlocks - 1;
            from[present] = Math.min(to[present], emptied * BLOCK);
            present = other;
            return down ? KEPT : DONE;
        }

        boolean comeUp() {
            boolean wasDown = down;
            from[1 - present] = 0;
            to[1 - present] = 0;
            down = false;
            return wasDown;
        }

        int entries() {
            return to[present];
        }

        int termsLying() {
            int lying = 0;
            for (int half = 0; half < 2; half++) {
                for (int i = 2 * from[half]; i < 2 * to[half]; i++) {
                    if (halves[half][i] != NOTHING) {
                        lying++;
                    }
                }
            }
            return lying;
        }

        int copyTerms(int[] target) {
            int copied = 0;
            for (int half = 0; half < 2; half++) {
                for (int i = 2 * from[half]; i < 2 * to[half]; i++) {
                    if (halves[half][i] != NOTHING && copied < target.length) {
                        target[copied] = halves[half][i];
                        copied++;
                    }
                }
            }
            return copied;
        }
    }

    /** The wires that are there, and behind them those that a call is about to tell. */
    private static final class Wires {
        private final int[] termOf = new int[MAX_WIRES];
        private final int[] letterOf = new int[MAX_WIRES];
        private int total;
        private int waiting;

        boolean has(int w) {
            return w >= 0 && w < total;
        }

        void startCall() {
            waiting = 0;
        }

        void add(int term) {
            if (total + waiting < MAX_WIRES) {
                termOf[total + waiting] = term;
                letterOf[total + waiting] = NONE;
                waiting++;
            }
        }

        /** Tells the call's wires, the last of which may bear a letter; answers that one. */
        int tell(Knowledge attacker, int letter) {
            for (; waiting > 0; waiting--) {
                attacker.give(termOf[total]);
                total++;
            }
            if (total > 0) {
                letterOf[total - 1] = letter;
            }
            return total - 1;
        }
    }

    /** What no device knows: which letters there are, who took them, who was looked into. */
    private static final class Ledger {
        private static final int OF_SECRET = 0;
        private static final int OF_SENDER = 1;
        private static final int OF_RECEIVER = 2;
        private static final int OF_GROUP = 3;
        private static final int OF_MASK = 4;
        private static final int OF_ONE_TIME = 5;
        private static final int OF_MINE = 6;
        private static final int OF_THEIRS = 7;
        private static final int OF_TAKERS = 8;
        // those who took it before any look that matters, by a one-time key
        private static final int OF_SAFE = 9;
        private static final int WIDTH = 10;

        private final int[] cells = new int[MAX_WIRES * WIDTH];
        private final int[] byDraw = new int[MAX_DRAWS];
        private final int[] lastLook = new int[DEVICES];
        private final int[] takenCount = new int[DEVICES];
        private final int[] takenLetter = new int[DEVICES];
        private final int[] takenFrom = new int[DEVICES];
        private final int[] takenGroup = new int[DEVICES];
        private int cameFrom;
        private int cameByGroup;
        private int cameTerm;
        private boolean cameByOneTime;
        private int letters;
        private int lookedInto;
        private int forgedCount;
        private int doubledCount;

        Ledger() {
            Arrays.fill(byDraw, NONE);
        }

        boolean has(int l) {
            return l >= 0 && l < letters;
        }

        private int of(int l, int what) {
            return has(l) ? cells[l * WIDTH + what] : NONE;
        }

        int secretOf(int l) {
            return of(l, OF_SECRET);
        }

        int addSent(Terms terms, int secret, int s, int d, Session way) {
            int at = addLetter(terms, secret, s, 1 << s | 1 << d);
            cells[at + OF_RECEIVER] = d;
            cells[at + OF_GROUP] = NONE;
            cells[at + OF_ONE_TIME] = way.oneTime ? 1 : 0;
            cells[at + OF_MINE] = way.mine;
            cells[at + OF_THEIRS] = terms.partOf(way.inbound.theirs, 0);
            return letters - 1;
        }

        int addPosted(Terms terms, int secret, int s, int g, int mask) {
            int at = addLetter(terms, secret, s, mask);
            cells[at + OF_RECEIVER] = NONE;
            cells[at + OF_GROUP] = g;
            if ((mask & lookedInto) == 0) {
                cells[at + OF_SAFE] = 1 << s;
            }
            return letters - 1;
        }

        private int addLetter(Terms terms, int secret, int s, int mask) {
            int at = Math.min(letters, MAX_WIRES - 1) * WIDTH;
            int draw = terms.markOf(secret);
            if (draw >= 0 && draw < MAX_DRAWS) {
                byDraw[draw] = letters;
            }
            cells[at + OF_SECRET] = secret;
            cells[at + OF_SENDER] = s;
            cells[at + OF_MASK] = mask;
            letters = Math.min(letters + 1, MAX_WIRES);
            return at;
        }

        private int letterWith(Terms terms, int term) {
            int draw = terms.kindOf(term) == SECRET ? terms.markOf(term) : NONE;
            return draw >= 0 && draw < MAX_DRAWS ? byDraw[draw] : NONE;
        }

        void noteLook(int d, int draws) {
            lookedInto |= 1 << d;
            lastLook[d] = draws;
        }

        /** What came to a device in the call that runs; it counts if the call is told. */
        void expect(int from, int byGroup, int term, boolean byOneTime) {
            cameFrom = from;
            cameByGroup = byGroup;
            cameTerm = term;
            cameByOneTime = byOneTime;
        }

        void noteTaken(Terms terms, int d) {
            int l = letterWith(terms, cameTerm);
            boolean sentSo = isSentSo(l, d);
            if (!hasBit(lookedInto, d) && !hasBit(lookedInto, cameFrom)) {
                if (!sentSo) {
                    forgedCount++;
                }
                if (has(l) && hasBit(of(l, OF_TAKERS), d)) {
                    doubledCount++;
                }
            }
            if (has(l)) {
                cells[l * WIDTH + OF_TAKERS] |= 1 << d;
            }
            if (sentSo && cameByOneTime && (of(l, OF_MASK) & lookedInto) == 0) {
                cells[l * WIDTH + OF_SAFE] |= 1 << d;
            }
            takenCount[d]++;
            takenLetter[d] = l;
            takenFrom[d] = cameFrom;
            takenGroup[d] = cameByGroup;
        }

        private boolean isSentSo(int l, int d) {
            if (!has(l) || of(l, OF_SENDER) != cameFrom || of(l, OF_GROUP) != cameByGroup) {
                return false;
            }
            return cameByGroup != NONE || of(l, OF_RECEIVER) == d;
        }

        int lastTaken(int d, int what) {
            if (what == 3) {
                return takenCount[d];
            }
            if (takenCount[d] == 0) {
                return NONE;
            }
            switch (what) {
                case 0:
                    return takenLetter[d];
                case 1:
                    return takenFrom[d];
                case 2:
                    return takenGroup[d];
                default:
                    return NONE;
            }
        }

        /** Whether one of leaked()'s four clauses says that the letter ought to be safe now. */
        boolean isSheltered(Terms terms, int l) {
            int mask = of(l, OF_MASK);
            if (of(l, OF_GROUP) != NONE) {
                return (mask & lookedInto) == 0 || (mask & ~of(l, OF_SAFE)) == 0;
            }
            boolean takenInTime = hasBit(of(l, OF_SAFE), of(l, OF_RECEIVER));
            return of(l, OF_ONE_TIME) == 1 && takenInTime || hasFreshKeys(terms, l);
        }

        private boolean hasFreshKeys(Terms terms, int l) {
            int d = of(l, OF_RECEIVER);
            int theirs = of(l, OF_THEIRS);
            int purpose = terms.drawnFor(theirs);
            boolean drawnByThem = terms.kindOf(theirs) == SECRET
                    && terms.drawnBy(theirs) == d
                    && (purpose == FOR_PREKEY || purpose == FOR_MINE);
            return drawnByThem
                    && terms.markOf(theirs) >= lastLook[d]
                    && terms.markOf(of(l, OF_MINE)) >= lastLook[of(l, OF_SENDER)];
        }
    }
}
