import java.util.ArrayList;
import java.util.HashMap;
import java.util.HashSet;
import java.util.LinkedHashMap;
import java.util.List;
import java.util.Map;
import java.util.Set;

/**
 * The document told a second time, as plainly as the Java library allows: terms are trees, a store
 * is a list of blocks that is written write by write, and what is told of letters is found by going
 * through all that ever happened. It knows nothing of how SealedHouse is made.
 */
final class Model {
    static final int NONE = -1;
    static final int FULL = -2;
    static final int DOWN = -3;
    static final int CRASHED = -4;

    // ---- terms

    /** The number of each term by its text, which names its parts by their numbers. */
    private static final Map<String, Integer> NUMBERS = new HashMap<>();

    /** tag: s SECRET, p PUBLIC, h SHARED, m MIX, e SEALED, g SIGNED, r ROW. */
    static final class T {
        final char tag;
        final int n;
        final int[] nums;
        final T[] parts;
        final int number;

        T(char tag, int n, int[] nums, T... parts) {
            this.tag = tag;
            this.n = n;
            this.nums = nums;
            this.parts = parts;
            StringBuilder b = new StringBuilder().append(tag).append(n);
            for (int v : nums) {
                b.append(',').append(v);
            }
            for (T t : parts) {
                b.append(' ').append(t == null ? -1 : t.number);
            }
            String text = b.toString();
            NUMBERS.putIfAbsent(text, NUMBERS.size());
            number = NUMBERS.get(text);
        }

        @Override
        public boolean equals(Object o) {
            return o instanceof T t && t.number == number;
        }

        @Override
        public int hashCode() {
            return number;
        }
    }

    static final int[] NO_NUMS = {};

    static T pub(T s) {
        return new T('p', 0, NO_NUMS, s);
    }

    static T shared(T s, T pub) {
        T t = pub.parts[0];
        return s.n <= t.n ? new T('h', 0, NO_NUMS, s, t) : new T('h', 0, NO_NUMS, t, s);
    }

    static T mix(int n, T a, T b) {
        return new T('m', n, NO_NUMS, a, b);
    }

    static T seal3(T k, T h, T b) {
        return new T('e', 0, NO_NUMS, k, h, b);
    }

    static T sign(T s, T m) {
        return new T('g', 0, NO_NUMS, s, m);
    }

    static T row(int kind, int a, int b, int c, int d, T... parts) {
        T[] four = new T[4];
        System.arraycopy(parts, 0, four, 0, parts.length);
        return new T('r', kind, new int[] {a, b, c, d}, four);
    }

    static boolean is(T t, char tag) {
        return t != null && t.tag == tag;
    }

    static boolean dev(int d) {
        return d >= 0 && d <= 5;
    }

    static boolean grp(int g) {
        return g >= 0 && g <= 3;
    }

    static boolean idx(int i) {
        return i >= 0 && i <= 9999;
    }

    static boolean good(T t, int kind) {
        if (!is(t, 'r') || t.n != kind) {
            return false;
        }
        int[] v = t.nums;
        T[] p = t.parts;
        boolean noTail = p[2] == null && p[3] == null;
        switch (kind) {
            case 1:
            case 2:
                return dev(v[0]) && v[2] == 0 && v[3] == 0 && is(p[0], 'p') && p[1] == null && noTail;
            case 3:
                return dev(v[0]) && dev(v[1]) && idx(v[2]) && idx(v[3]) && is(p[0], 'p')
                        && is(p[1], 'p') && (p[2] == null || is(p[2], 'p'))
                        && (p[3] == null || is(p[3], 'p') && p[2] != null);
            case 4:
                return v[0] == 0 && v[1] == 0 && v[2] == 0 && v[3] == 0 && p[0] != null
                        && p[1] == null && noTail;
            case 5:
                return grp(v[0]) && v[1] >= 1 && idx(v[2]) && v[3] == 0 && p[0] != null
                        && is(p[1], 'p') && noTail;
            case 6:
                return grp(v[0]) && v[1] >= 1 && v[2] >= 0 && v[2] <= 63 && v[3] == 0
                        && p[0] == null && p[1] == null && noTail;
            case 7:
                return grp(v[0]) && dev(v[1]) && v[2] >= 1 && idx(v[3]) && p[0] == null
                        && p[1] == null && noTail;
            default:
                return false;
        }
    }

    // ---- what a device has

    record Left(T pub, int index, T key) { }

    static final class Sess {
        T base;
        T root;
        T mine;
        T theirs;
        T send;
        T receive;
        int n;
        int before;
        int next;
        List<Left> left = new ArrayList<>();
        boolean bears;
        T bornePre;
        T borneOnce;
        boolean oneTime;

        Sess copy() {
            Sess c = new Sess();
            c.base = base;
            c.root = root;
            c.mine = mine;
            c.theirs = theirs;
            c.send = send;
            c.receive = receive;
            c.n = n;
            c.before = before;
            c.next = next;
            c.left = new ArrayList<>(left);
            c.bears = bears;
            c.bornePre = bornePre;
            c.borneOnce = borneOnce;
            c.oneTime = oneTime;
            return c;
        }
    }

    static final class Gift {
        int generation;
        T chain;
        T pub;
        int next;
        List<Left> left = new ArrayList<>();
        boolean oneTime;

        Gift copy() {
            Gift c = new Gift();
            c.generation = generation;
            c.chain = chain;
            c.pub = pub;
            c.next = next;
            c.left = new ArrayList<>(left);
            c.oneTime = oneTime;
            return c;
        }
    }

    static final class Grp {
        int version;
        int mask;
        int gone;
        int generation;
        T chain;
        T signer;
        int index;
        int gave;
        boolean stale;
        List<List<Gift>> given = new ArrayList<>();

        Grp() {
            for (int p = 0; p < 6; p++) {
                given.add(new ArrayList<>());
            }
        }

        Grp copy() {
            Grp c = new Grp();
            c.version = version;
            c.mask = mask;
            c.gone = gone;
            c.generation = generation;
            c.chain = chain;
            c.signer = signer;
            c.index = index;
            c.gave = gave;
            c.stale = stale;
            for (int p = 0; p < 6; p++) {
                for (Gift g : given.get(p)) {
                    c.given.get(p).add(g.copy());
                }
            }
            return c;
        }

        void comes(int v, int m) {
            int left = mask & ~m;
            gone |= left;
            if (left != 0) {
                stale = true;
                for (int p = 0; p < 6; p++) {
                    if ((left >> p & 1) == 1) {
                        given.get(p).clear();
                    }
                }
            }
            version = v;
            mask = m;
        }
    }

    static final class Pre {
        T secret;
        int number;
        List<T> bases = new ArrayList<>();

        Pre copy() {
            Pre c = new Pre();
            c.secret = secret;
            c.number = number;
            c.bases = new ArrayList<>(bases);
            return c;
        }
    }

    record Once(T secret, int number) { }

    static final class State {
        T identity;
        int last;
        Pre now;
        Pre past;
        List<Once> once = new ArrayList<>();
        List<List<Sess>> sessions = new ArrayList<>();
        List<Grp> groups = new ArrayList<>();

        State(T identity) {
            this.identity = identity;
            for (int p = 0; p < 6; p++) {
                sessions.add(new ArrayList<>());
            }
        }

        State copy() {
            State c = new State(identity);
            c.last = last;
            c.now = now == null ? null : now.copy();
            c.past = past == null ? null : past.copy();
            c.once = new ArrayList<>(once);
            for (int p = 0; p < 6; p++) {
                for (Sess s : sessions.get(p)) {
                    c.sessions.get(p).add(s.copy());
                }
            }
            for (Grp g : groups) {
                c.groups.add(g.copy());
            }
            return c;
        }

        List<T[]> entries() {
            List<T[]> e = new ArrayList<>();
            e.add(new T[] {identity});
            for (Pre p : new Pre[] {now, past}) {
                if (p != null) {
                    e.add(new T[] {p.secret});
                    for (T b : p.bases) {
                        e.add(new T[] {b});
                    }
                }
            }
            for (Once o : once) {
                e.add(new T[] {o.secret});
            }
            for (List<Sess> with : sessions) {
                for (Sess s : with) {
                    for (T t : new T[] {s.base, s.root, s.mine, s.theirs, s.send, s.receive}) {
                        if (t != null) {
                            e.add(new T[] {t});
                        }
                    }
                    if (s.bears) {
                        e.add(s.borneOnce == null
                                ? new T[] {s.bornePre} : new T[] {s.bornePre, s.borneOnce});
                    }
                    for (Left l : s.left) {
                        e.add(new T[] {l.key, l.pub});
                    }
                }
            }
            for (Grp g : groups) {
                if (g.generation > 0) {
                    e.add(new T[] {g.chain, g.signer});
                }
                for (List<Gift> by : g.given) {
                    for (Gift k : by) {
                        e.add(new T[] {k.chain, k.pub});
                        for (Left l : k.left) {
                            e.add(new T[] {l.key});
                        }
                    }
                }
            }
            return e;
        }
    }

    /** A device: both halves as blocks, what each half says, and what is told of it. */
    static final class Dev {
        State state;
        State[] says = new State[2];
        List<List<List<T[]>>> halves = new ArrayList<>();
        int present;
        int cut = -1;
        boolean down;
    }

    // ---- what happens

    static final class Letter {
        T secret;
        int from;
        int to = NONE;
        int group = NONE;
        int mask;
        boolean oneTime;
        T mine;
        T theirs;
        int time;
    }

    record Taking(int time, int by, int from, int group, T term, boolean oneTime) { }

    record Look(int time, int at) { }

    record Draw(T secret, int by, String as, int time) { }

    final Dev[] devs = new Dev[6];
    final T[] ids = new T[6];
    final T[][] directory = new T[6][5];
    final T[] regs = new T[32];
    final List<T> wires = new ArrayList<>();
    final List<Integer> wireLetter = new ArrayList<>();
    final List<Letter> letters = new ArrayList<>();
    final List<Draw> draws = new ArrayList<>();
    final List<Taking> takings = new ArrayList<>();
    final List<Look> looks = new ArrayList<>();
    final Set<T> given = new HashSet<>();
    List<T> seen = new ArrayList<>();
    int clock;
    private Set<T> derivedNow;
    private final List<T> pending = new ArrayList<>();
    private Taking coming;

    Model() {
        NUMBERS.clear();
        for (int d = 0; d < 6; d++) {
            ids[d] = drawn(d, "identity");
            give(pub(ids[d]));
            Dev dev = new Dev();
            dev.state = new State(ids[d]);
            for (int g = 0; g < 4; g++) {
                dev.state.groups.add(new Grp());
            }
            dev.says[0] = dev.state;
            dev.halves.add(new ArrayList<>());
            dev.halves.add(new ArrayList<>());
            dev.halves.get(0).add(dev.state.entries());
            devs[d] = dev;
        }
    }

    private T drawn(int by, String as) {
        T s = new T('s', draws.size(), NO_NUMS);
        draws.add(new Draw(s, by, as, ++clock));
        return s;
    }

    private void give(T t) {
        given.add(t);
        derivedNow = null;
    }

    private boolean full() {
        return 3000 - draws.size() < 40 || 700 - wires.size() < 8;
    }

    /** True if the call is told. */
    private boolean commit(int d, State next) {
        Dev dev = devs[d];
        int left = dev.cut < 0 ? Integer.MAX_VALUE : dev.cut;
        dev.cut = -1;
        int other = 1 - dev.present;
        int old = dev.present;
        List<T[]> entries = next.entries();
        List<List<T[]>> blocks = new ArrayList<>();
        for (int i = 0; i < entries.size(); i += 8) {
            blocks.add(entries.subList(i, Math.min(i + 8, entries.size())));
        }
        for (List<T[]> block : blocks) {
            if (left-- == 0) {
                return cutOff(dev);
            }
            dev.halves.get(other).add(block);
        }
        if (left-- == 0) {
            return cutOff(dev);
        }
        dev.present = other;
        dev.says[other] = next;
        dev.state = next;
        for (int i = 0; i < dev.halves.get(old).size(); i++) {
            if (left-- == 0) {
                return cutOff(dev);
            }
            dev.halves.get(old).set(i, new ArrayList<>());
        }
        dev.halves.get(old).clear();
        return true;
    }

    private boolean cutOff(Dev dev) {
        dev.down = true;
        dev.state = dev.says[dev.present];
        return false;
    }

    private int tell(Letter letter) {
        for (T t : pending) {
            wires.add(t);
            wireLetter.add(NONE);
            give(t);
        }
        if (letter != null) {
            letter.time = ++clock;
            wireLetter.set(wires.size() - 1, letters.size());
            letters.add(letter);
        }
        return wires.size() - 1;
    }

    // ---- devices

    int publish(int d) {
        if (!dev(d)) {
            return NONE;
        }
        if (full()) {
            return FULL;
        }
        if (devs[d].down) {
            return DOWN;
        }
        State st = devs[d].state.copy();
        st.past = st.now;
        st.now = new Pre();
        st.now.secret = drawn(d, "PREKEY");
        st.now.number = ++st.last;
        while (st.once.size() < 4) {
            st.once.add(new Once(drawn(d, "once"), ++st.last));
        }
        if (!commit(d, st)) {
            return CRASHED;
        }
        directory[d][0] = sign(ids[d], row(1, d, st.now.number, 0, 0, pub(st.now.secret)));
        for (int i = 0; i < 4; i++) {
            Once o = st.once.get(i);
            directory[d][i + 1] = row(2, d, o.number, 0, 0, pub(o.secret));
        }
        for (T t : directory[d]) {
            give(t);
        }
        return st.now.number;
    }

    private boolean canBegin(int d) {
        T t = directory[d][0];
        return is(t, 'g') && t.parts[0].equals(ids[d]) && good(t.parts[1], 1)
                && t.parts[1].nums[0] == d;
    }

    private Sess open(State st, int s, int d) {
        T p = directory[d][0].parts[1].parts[0];
        T o = null;
        for (int i = 1; i < 5; i++) {
            T t = directory[d][i];
            if (t != null) {
                directory[d][i] = null;
                if (good(t, 2) && t.nums[0] == d) {
                    o = t.parts[0];
                }
                break;
            }
        }
        T e = drawn(s, "e");
        T r = drawn(s, "MINE");
        T a = mix(0, shared(ids[s], p), shared(e, pub(ids[d])));
        T b = mix(1, a, shared(e, p));
        T c = o == null ? mix(3, b, null) : mix(2, b, shared(e, o));
        Sess x = new Sess();
        x.base = pub(e);
        x.mine = r;
        x.theirs = p;
        x.root = mix(4, c, shared(r, p));
        x.send = mix(5, c, shared(r, p));
        x.bears = true;
        x.bornePre = p;
        x.borneOnce = o;
        x.oneTime = o != null;
        come(st.sessions.get(d), x);
        return x;
    }

    private static void come(List<Sess> with, Sess x) {
        with.add(0, x);
        if (with.size() > 2) {
            with.remove(2);
        }
    }

    private T wire(Sess x, int s, int d, T body) {
        T head = row(3, s, d, x.n, x.before, x.base, pub(x.mine),
                x.bears ? x.bornePre : null, x.bears ? x.borneOnce : null);
        T t = seal3(mix(6, x.send, null), head, body);
        x.send = mix(7, x.send, null);
        x.n++;
        return t;
    }

    private void ready(Sess x, int s) {
        if (x.send == null) {
            x.before = x.n;
            x.n = 0;
            x.mine = drawn(s, "MINE");
            x.send = mix(5, x.root, shared(x.mine, x.theirs));
            x.root = mix(4, x.root, shared(x.mine, x.theirs));
        }
    }

    int begin(int s, int d) {
        if (!dev(s) || !dev(d) || s == d) {
            return NONE;
        }
        if (full()) {
            return FULL;
        }
        if (devs[s].down) {
            return DOWN;
        }
        if (!canBegin(d)) {
            return -5;
        }
        State st = devs[s].state.copy();
        open(st, s, d);
        return commit(s, st) ? st.sessions.get(d).size() : CRASHED;
    }

    int send(int s, int d) {
        if (!dev(s) || !dev(d) || s == d) {
            return NONE;
        }
        if (full()) {
            return FULL;
        }
        if (devs[s].down) {
            return DOWN;
        }
        State st = devs[s].state.copy();
        if (st.sessions.get(d).isEmpty() && !canBegin(d)) {
            return -5;
        }
        Sess x = st.sessions.get(d).isEmpty() ? open(st, s, d) : st.sessions.get(d).get(0);
        ready(x, s);
        Letter l = new Letter();
        l.secret = drawn(s, "letter");
        l.from = s;
        l.to = d;
        l.oneTime = x.oneTime;
        l.mine = x.mine;
        l.theirs = x.theirs;
        pending.clear();
        pending.add(wire(x, s, d, row(4, 0, 0, 0, 0, l.secret)));
        return commit(s, st) ? tell(l) : CRASHED;
    }

    int list(int g, int mask) {
        if (!grp(g) || mask < 0 || mask > 63) {
            return NONE;
        }
        if (full()) {
            return FULL;
        }
        if (devs[g].down) {
            return DOWN;
        }
        State st = devs[g].state.copy();
        Grp own = st.groups.get(g);
        if ((mask >> g & 1) == 0 || (mask & own.gone) != 0) {
            return -6;
        }
        own.comes(own.version + 1, mask);
        pending.clear();
        pending.add(sign(ids[g], row(6, g, own.version, mask, 0)));
        return commit(g, st) ? tell(null) : CRASHED;
    }

    int post(int s, int g) {
        if (!dev(s) || !grp(g)) {
            return NONE;
        }
        if (full()) {
            return FULL;
        }
        if (devs[s].down) {
            return DOWN;
        }
        State st = devs[s].state.copy();
        Grp own = st.groups.get(g);
        if (own.version == 0) {
            return -6;
        }
        pending.clear();
        if (own.generation == 0 || own.stale) {
            own.generation++;
            own.chain = drawn(s, "chain");
            own.signer = drawn(s, "signer");
            own.index = 0;
            own.gave = 0;
            own.stale = false;
        }
        for (int p = 0; p < 6; p++) {
            if (p == s || (own.mask >> p & 1) == 0 || (own.gave >> p & 1) == 1) {
                continue;
            }
            if (st.sessions.get(p).isEmpty() && !canBegin(p)) {
                continue;
            }
            Sess x = st.sessions.get(p).isEmpty() ? open(st, s, p) : st.sessions.get(p).get(0);
            ready(x, s);
            pending.add(wire(x, s, p,
                    row(5, g, own.generation, own.index, 0, own.chain, pub(own.signer))));
            own.gave |= 1 << p;
        }
        Letter l = new Letter();
        l.secret = drawn(s, "letter");
        l.from = s;
        l.group = g;
        l.mask = own.mask;
        T head = row(7, g, s, own.generation, own.index);
        pending.add(sign(own.signer,
                seal3(mix(6, own.chain, null), head, row(4, 0, 0, 0, 0, l.secret))));
        own.chain = mix(7, own.chain, null);
        own.index++;
        return commit(s, st) ? tell(l) : CRASHED;
    }

    int deliver(int d, int w) {
        if (!dev(d) || w < 0 || w >= wires.size()) {
            return NONE;
        }
        return come(d, wires.get(w));
    }

    int inject(int d, int r) {
        if (!dev(d) || reg(r) == null) {
            return NONE;
        }
        return come(d, reg(r));
    }

    private int come(int d, T t) {
        if (devs[d].down) {
            return DOWN;
        }
        State st = devs[d].state.copy();
        coming = null;
        int answer = -10;
        if (is(t, 'e') && good(t.parts[1], 3)) {
            answer = takeSealed(st, d, t);
        } else if (is(t, 'g') && good(t.parts[1], 6)) {
            answer = takeList(st, d, t);
        } else if (is(t, 'g') && is(t.parts[1], 'e') && good(t.parts[1].parts[1], 7)) {
            answer = takePost(st, d, t);
        }
        if (answer < 0) {
            return answer;
        }
        if (!commit(d, st)) {
            return CRASHED;
        }
        if (coming != null) {
            takings.add(coming);
        }
        return answer;
    }

    private int takeSealed(State st, int d, T t) {
        T k = t.parts[0];
        T h = t.parts[1];
        T b = t.parts[2];
        int from = h.nums[0];
        if (h.nums[1] != d || from == d) {
            return -11;
        }
        T base = h.parts[0];
        T key = h.parts[1];
        List<Sess> with = st.sessions.get(from);
        Sess x = null;
        for (Sess y : with) {
            if (y.base.equals(base)) {
                x = y;
            }
        }
        if (x == null) {
            x = answer(st, from, h);
            if (x == null) {
                return -12;
            }
            come(with, x);
        }
        T due = null;
        for (Left l : x.left) {
            if (due == null && l.pub.equals(key) && l.index == h.nums[2]) {
                due = l.key;
                x.left.remove(l);
                break;
            }
        }
        if (due == null) {
            if (!key.equals(x.theirs) || x.receive == null) {
                if (x.receive != null && h.nums[3] > x.next && !skip(x, h.nums[3])) {
                    return -13;
                }
                T both = shared(x.mine, key);
                x.receive = mix(5, x.root, both);
                x.root = mix(4, x.root, both);
                x.theirs = key;
                x.next = 0;
                x.send = null;
            }
            if (h.nums[2] < x.next || !skip(x, h.nums[2])) {
                return -13;
            }
            due = mix(6, x.receive, null);
            x.receive = mix(7, x.receive, null);
            x.next++;
        }
        if (!due.equals(k)) {
            return -14;
        }
        if (!good(b, 4) && !good(b, 5)) {
            return -15;
        }
        with.remove(x);
        with.add(0, x);
        x.bears = false;
        if (good(b, 4)) {
            coming = new Taking(++clock, d, from, NONE, b.parts[0], x.oneTime);
            return 1;
        }
        List<Gift> by = st.groups.get(b.nums[0]).given.get(from);
        if (by.stream().allMatch(y -> y.generation < b.nums[1])) {
            Gift y = new Gift();
            y.generation = b.nums[1];
            y.chain = b.parts[0];
            y.pub = b.parts[1];
            y.next = b.nums[2];
            y.oneTime = x.oneTime;
            by.add(0, y);
            if (by.size() > 2) {
                by.remove(2);
            }
        }
        return 2;
    }

    private Sess answer(State st, int from, T h) {
        T base = h.parts[0];
        Pre pre = null;
        for (Pre p : new Pre[] {st.now, st.past}) {
            if (p != null && pub(p.secret).equals(h.parts[2])) {
                pre = p;
            }
        }
        if (pre == null) {
            return null;
        }
        Once once = null;
        for (Once o : st.once) {
            if (pub(o.secret).equals(h.parts[3])) {
                once = o;
            }
        }
        if (h.parts[3] != null && once == null) {
            return null;
        }
        if (once == null && (pre.bases.contains(base) || pre.bases.size() == 4)) {
            return null;
        }
        T a = mix(0, shared(pre.secret, pub(ids[from])), shared(st.identity, base));
        T b = mix(1, a, shared(pre.secret, base));
        Sess x = new Sess();
        x.base = base;
        x.root = once == null ? mix(3, b, null) : mix(2, b, shared(once.secret, base));
        x.mine = pre.secret;
        x.oneTime = once != null;
        if (once == null) {
            pre.bases.add(base);
        } else {
            st.once.remove(once);
        }
        return x;
    }

    private static boolean skip(Sess x, int i) {
        if (i > x.next + 5) {
            return false;
        }
        for (; x.next < i; x.next++) {
            x.left.add(new Left(x.theirs, x.next, mix(6, x.receive, null)));
            if (x.left.size() == 9) {
                x.left.remove(0);
            }
            x.receive = mix(7, x.receive, null);
        }
        return true;
    }

    private int takeList(State st, int d, T t) {
        T m = t.parts[1];
        int g = m.nums[0];
        int mask = m.nums[2];
        Grp own = st.groups.get(g);
        if (d == g || !t.parts[0].equals(ids[g]) || m.nums[1] <= own.version
                || (mask >> g & 1) == 0 || (mask >> d & 1) == 0 || (mask & own.gone) != 0) {
            return -16;
        }
        own.comes(m.nums[1], mask);
        return 3;
    }

    private int takePost(State st, int d, T t) {
        T x = t.parts[1];
        T h = x.parts[1];
        int from = h.nums[1];
        int index = h.nums[3];
        if (from == d) {
            return -11;
        }
        Grp own = st.groups.get(h.nums[0]);
        Gift gift = null;
        for (Gift y : own.given.get(from)) {
            if (y.generation == h.nums[2]) {
                gift = y;
            }
        }
        if (own.version == 0 || (own.mask >> from & 1) == 0 || gift == null) {
            return -17;
        }
        if (!pub(t.parts[0]).equals(gift.pub)) {
            return -14;
        }
        T due = null;
        for (Left l : gift.left) {
            if (l.index == index) {
                due = l.key;
                gift.left.remove(l);
                break;
            }
        }
        if (due == null) {
            if (index < gift.next || index > gift.next + 5) {
                return -13;
            }
            for (; gift.next < index; gift.next++) {
                gift.left.add(new Left(null, gift.next, mix(6, gift.chain, null)));
                if (gift.left.size() == 9) {
                    gift.left.remove(0);
                }
                gift.chain = mix(7, gift.chain, null);
            }
            due = mix(6, gift.chain, null);
            gift.chain = mix(7, gift.chain, null);
            gift.next++;
        }
        if (!due.equals(x.parts[0])) {
            return -14;
        }
        if (!good(x.parts[2], 4)) {
            return -15;
        }
        coming = new Taking(++clock, d, from, h.nums[0], x.parts[2].parts[0], gift.oneTime);
        return 1;
    }

    int crash(int d, int k) {
        if (!dev(d) || k < 0 || k > 200) {
            return NONE;
        }
        if (devs[d].down) {
            return DOWN;
        }
        devs[d].cut = k;
        return 1;
    }

    int up(int d) {
        if (!dev(d)) {
            return NONE;
        }
        if (!devs[d].down) {
            return 0;
        }
        devs[d].down = false;
        devs[d].halves.get(1 - devs[d].present).clear();
        return 1;
    }

    // ---- the attacker

    T reg(int r) {
        return r >= 0 && r < 32 ? regs[r] : null;
    }

    private int keep(int r, T t) {
        if (r < 0 || r >= 32 || t == null) {
            return NONE;
        }
        regs[r] = t;
        return 1;
    }

    int draw(int r) {
        if (r < 0 || r > 31) {
            return NONE;
        }
        if (full()) {
            return FULL;
        }
        T s = drawn(6, "attacker");
        give(s);
        return keep(r, s);
    }

    int take(int r, int what, int i) {
        if (i < 0) {
            return NONE;
        }
        switch (what) {
            case 0:
                return keep(r, i < wires.size() ? wires.get(i) : null);
            case 1:
                return keep(r, i < 30 ? directory[i / 5][i % 5] : null);
            case 2:
                return keep(r, i < 6 ? pub(ids[i]) : null);
            case 3:
                return keep(r, i < seen.size() ? seen.get(i) : null);
            default:
                return NONE;
        }
    }

    int part(int r, int x, int what) {
        T t = reg(x);
        if (what >= 0 && what <= 3 && is(t, 'r')) {
            return keep(r, t.parts[what]);
        }
        if (what == 4 && is(t, 'e') || what == 5 && is(t, 'g')) {
            return keep(r, t.parts[1]);
        }
        return NONE;
    }

    int unseal(int r, int x, int k) {
        T t = reg(x);
        if (r < 0 || r > 31 || !is(t, 'e') || reg(k) == null) {
            return NONE;
        }
        return t.parts[0].equals(reg(k)) ? keep(r, t.parts[2]) : 0;
    }

    int make(int r, int what, int x, int y) {
        T a = reg(x);
        T b = reg(y);
        if (r < 0 || r > 31 || a == null || what < 0 || what > 12) {
            return NONE;
        }
        if (what <= 9) {
            return b == null && y != -1 ? NONE : keep(r, mix(what, a, b));
        }
        if (!is(a, 's')) {
            return NONE;
        }
        if (what == 10) {
            return keep(r, pub(a));
        }
        if (what == 11) {
            return is(b, 'p') ? keep(r, shared(a, b)) : NONE;
        }
        return b == null ? NONE : keep(r, sign(a, b));
    }

    int seal(int r, int k, int h, int b) {
        if (reg(k) == null || reg(h) == null || reg(b) == null) {
            return NONE;
        }
        return keep(r, seal3(reg(k), reg(h), reg(b)));
    }

    int alter(int r, int x, int k, int v) {
        T t = reg(x);
        if (!is(t, 'r') || k < 0 || k > 4 || k == 4 && (v < 1 || v > 7)) {
            return NONE;
        }
        int[] nums = t.nums.clone();
        if (k < 4) {
            nums[k] = v;
        }
        return keep(r, new T('r', k == 4 ? v : t.n, nums, t.parts));
    }

    int swap(int r, int x, int k, int y) {
        T t = reg(x);
        if (!is(t, 'r') || k < 0 || k > 3 || reg(y) == null && y != -1) {
            return NONE;
        }
        T[] parts = t.parts.clone();
        parts[k] = reg(y);
        return keep(r, new T('r', t.n, t.nums, parts));
    }

    int plant(int d, int place, int r) {
        if (!dev(d) || place < 0 || place > 4 || reg(r) == null && r != -1) {
            return NONE;
        }
        directory[d][place] = reg(r);
        return 1;
    }

    private List<T> lying(int d) {
        List<T> all = new ArrayList<>();
        for (List<List<T[]>> half : devs[d].halves) {
            for (List<T[]> block : half) {
                for (T[] entry : block) {
                    all.addAll(List.of(entry));
                }
            }
        }
        return all;
    }

    int look(int d) {
        if (!dev(d)) {
            return NONE;
        }
        seen = lying(d);
        seen.forEach(this::give);
        looks.add(new Look(++clock, d));
        return seen.size();
    }

    int same(int x, int y) {
        if (reg(x) == null || reg(y) == null) {
            return NONE;
        }
        return reg(x).equals(reg(y)) ? 1 : 0;
    }

    int about(int x, int what) {
        T t = reg(x);
        if (t == null || what < 0 || what > 5) {
            return NONE;
        }
        if (what == 0) {
            return 1 + "sphmegr".indexOf(t.tag);
        }
        if (what == 1) {
            return t.tag == 'm' || t.tag == 'r' ? t.n : 0;
        }
        return t.tag == 'r' ? t.nums[what - 2] : 0;
    }

    private static void subterms(T t, Map<Integer, T> all) {
        if (t == null || all.containsKey(t.number)) {
            return;
        }
        for (T p : t.parts) {
            subterms(p, all);
        }
        all.put(t.number, t);
    }

    /** The part of DERIVED that lies in what the given terms are made of. */
    private Set<T> derivedTerms() {
        if (derivedNow != null) {
            return derivedNow;
        }
        Map<Integer, T> all = new LinkedHashMap<>();
        given.forEach(t -> subterms(t, all));
        Set<T> known = new HashSet<>(given);
        boolean more = true;
        while (more) {
            more = false;
            for (T t : all.values()) {
                if (known.contains(t)) {
                    for (int i = 0; i < t.parts.length; i++) {
                        boolean opens = t.tag == 'r' || t.tag == 'g' && i == 1
                                || t.tag == 'e' && (i == 1 || i == 2 && known.contains(t.parts[0]));
                        if (opens && t.parts[i] != null) {
                            more |= known.add(t.parts[i]);
                        }
                    }
                } else if (canMake(t, known)) {
                    more |= known.add(t);
                }
            }
        }
        derivedNow = known;
        return known;
    }

    private static boolean canMake(T t, Set<T> known) {
        if (t.tag == 's') {
            return false;
        }
        if (t.tag == 'h') {
            T a = t.parts[0];
            T b = t.parts[1];
            boolean hasA = known.contains(a);
            boolean hasB = known.contains(b);
            return hasA && (hasB || known.contains(pub(b))) || hasB && known.contains(pub(a));
        }
        for (T p : t.parts) {
            if (p != null && !known.contains(p)) {
                return false;
            }
        }
        return true;
    }

    int derived(int l) {
        if (l < 0 || l >= letters.size()) {
            return NONE;
        }
        return derivedTerms().contains(letters.get(l).secret) ? 1 : 0;
    }

    // ---- what is told

    int letter(int w) {
        return w >= 0 && w < wires.size() ? wireLetter.get(w) : NONE;
    }

    private int number(T t) {
        for (int l = 0; l < letters.size(); l++) {
            if (letters.get(l).secret.equals(t)) {
                return l;
            }
        }
        return NONE;
    }

    int taken(int d, int what) {
        if (!dev(d)) {
            return NONE;
        }
        List<Taking> own = takings.stream().filter(t -> t.by == d).toList();
        if (what == 3) {
            return own.size();
        }
        if (own.isEmpty()) {
            return NONE;
        }
        Taking last = own.get(own.size() - 1);
        switch (what) {
            case 0:
                return number(last.term);
            case 1:
                return last.from;
            case 2:
                return last.group;
            default:
                return NONE;
        }
    }

    int device(int d, int what) {
        if (!dev(d)) {
            return NONE;
        }
        State st = devs[d].state;
        switch (what) {
            case 0:
                return st.now == null ? 0 : st.now.number;
            case 1:
                return st.past == null ? 0 : st.past.number;
            case 2:
                return st.once.size();
            case 3:
                return st.now == null ? 0 : st.now.bases.size();
            case 4:
                return st.entries().size();
            case 5:
                return lying(d).size();
            case 6:
                return devs[d].present;
            case 7:
                return devs[d].down ? 1 : 0;
            default:
                return NONE;
        }
    }

    int session(int d, int p, int k, int what) {
        if (!dev(d) || !dev(p) || d == p || k < 0 || k > 1
                || k >= devs[d].state.sessions.get(p).size()) {
            return NONE;
        }
        Sess x = devs[d].state.sessions.get(p).get(k);
        switch (what) {
            case 0:
                return x.n;
            case 1:
                return x.before;
            case 2:
                return x.next;
            case 3:
                return x.left.size();
            case 4:
                return x.bears ? 1 : 0;
            case 5:
                return x.send != null ? 1 : 0;
            case 6:
                return x.receive != null ? 1 : 0;
            default:
                return NONE;
        }
    }

    int group(int d, int g, int what) {
        if (!dev(d) || !grp(g) || what < 0) {
            return NONE;
        }
        Grp x = devs[d].state.groups.get(g);
        if (what < 10) {
            int[] plain = {x.version, x.mask, x.gone, x.generation, x.index, x.gave, x.stale ? 1 : 0};
            return what < plain.length ? plain[what] : NONE;
        }
        int p = what % 10;
        if (p > 5 || what >= 50) {
            return NONE;
        }
        List<Gift> by = x.given.get(p);
        if (what < 20) {
            return by.size();
        }
        if (by.isEmpty()) {
            return NONE;
        }
        Gift y = by.get(0);
        return what < 30 ? y.generation : what < 40 ? y.next : y.left.size();
    }

    int count(int what) {
        switch (what) {
            case 0:
                return wires.size();
            case 1:
                return letters.size();
            case 2:
                return draws.size();
            default:
                return NONE;
        }
    }

    private boolean lookedBefore(int time, int mask) {
        return looks.stream().anyMatch(l -> l.time < time && (mask >> l.at & 1) == 1);
    }

    private boolean isOf(Taking t, Letter l) {
        return t.term.equals(l.secret) && t.from == l.from
                && (t.group == NONE ? l.to == t.by : l.group == t.group);
    }

    int forged() {
        int n = 0;
        for (Taking t : takings) {
            boolean unseen = !lookedBefore(t.time, 1 << t.by | 1 << t.from);
            if (unseen && letters.stream().noneMatch(l -> isOf(t, l))) {
                n++;
            }
        }
        return n;
    }

    int doubled() {
        int n = 0;
        for (Taking t : takings) {
            boolean unseen = !lookedBefore(t.time, 1 << t.by | 1 << t.from);
            boolean before = takings.stream().anyMatch(
                    o -> o.time < t.time && o.by == t.by && o.term.equals(t.term));
            if (unseen && before && number(t.term) != NONE) {
                n++;
            }
        }
        return n;
    }

    int leaked() {
        int n = 0;
        for (int l = 0; l < letters.size(); l++) {
            if (derived(l) == 1 && sheltered(letters.get(l))) {
                n++;
            }
        }
        return n;
    }

    /** Whether one of the four clauses of leaked is so of a letter now, derived or not. */
    boolean sheltered(int l) {
        return sheltered(letters.get(l));
    }

    private boolean sheltered(Letter l) {
        if (l.to != NONE) {
            boolean first = l.oneTime && takings.stream().anyMatch(t -> isOf(t, l) && t.oneTime
                    && !lookedBefore(t.time, 1 << l.from | 1 << l.to));
            return first || drawnBehind(l.mine, l.from) && drawnBehind(l.theirs.parts[0], l.to);
        }
        if (!lookedBefore(Integer.MAX_VALUE, l.mask)) {
            return true;
        }
        boolean all = !lookedBefore(l.time, l.mask);
        for (int p = 0; p < 6; p++) {
            int by = p;
            if (p != l.from && (l.mask >> p & 1) == 1) {
                all &= takings.stream().anyMatch(t -> t.by == by && isOf(t, l) && t.oneTime
                        && !lookedBefore(t.time, l.mask));
            }
        }
        return all;
    }

    private boolean drawnBehind(T secret, int d) {
        Draw draw = draws.get(secret.n);
        return draw.by == d && (draw.as.equals("PREKEY") || draw.as.equals("MINE"))
                && looks.stream().noneMatch(l -> l.at == d && l.time > draw.time);
    }
}
