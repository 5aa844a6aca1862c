import java.util.ArrayList;
import java.util.List;
import java.util.Random;
import java.util.TreeMap;

/** Random runs of up to 512 calls, in which the program must answer as the model does. */
public final class ModelTest {
    private static final int RUNS = Integer.getInteger("runs", 240);
    private static final int FIRST_SEED = Integer.getInteger("seed", 1);
    private static final TreeMap<String, Integer> SEEN = new TreeMap<>();

    private final Random random;
    private final Pair pair = new Pair();
    private final Model model = pair.model;
    private final int members;

    private ModelTest(long seed) {
        random = new Random(seed);
        members = 2 + random.nextInt(5);
    }

    public static void main(String[] args) {
        int wrong = 0;
        for (int i = 0; i < RUNS; i++) {
            ModelTest run = new ModelTest(FIRST_SEED + i);
            run.go(i % 6);
            if (run.pair.wrong) {
                wrong++;
                System.out.println("seed " + (FIRST_SEED + i) + ", profile " + i % 6);
                if (wrong > 2) {
                    break;
                }
            }
        }
        if (Boolean.getBoolean("tally")) {
            SEEN.forEach((what, times) -> System.out.println(times + " " + what));
        }
        wrong += rareAnswers();
        System.out.println(wrong == 0 ? "the program agrees with the model" : wrong + " wrong");
        if (wrong != 0) {
            System.exit(1);
        }
    }

    /** A random test that never gets to an answer tells nothing of it. */
    private static int rareAnswers() {
        int missing = 0;
        for (String due : List.of("arrives 1", "arrives 2", "arrives 3", "arrives -10",
                "arrives -11", "arrives -12", "arrives -13", "arrives -14", "arrives -15",
                "arrives -16", "arrives -17", "arrives -3", "arrives -4", "unseal 1", "derived 1",
                "derived 0", "a sheltered letter", "no sheltered letter", "a sheltered post",
                "no sheltered post", "post -4", "post -6", "send -5", "list -6", "turns 1",
                "turns -13", "begun to 1", "begun to 2")) {
            if (!SEEN.containsKey(due) && RUNS >= 240) {
                System.out.println("no run got to: " + due);
                missing++;
            }
        }
        return missing;
    }

    private static void saw(String what) {
        SEEN.merge(what, 1, Integer::sum);
    }

    // ---- one run

    private void go(int profile) {
        int crashes = profile == 3 ? 12 : profile == 5 ? 4 : 0;
        int attacks = profile == 2 ? 25 : profile >= 4 ? 8 : 0;
        int wild = profile == 5 ? 20 : 1;
        int groups = profile == 1 ? 50 : profile == 0 ? 0 : 20;
        for (int d = 0; d < members; d++) {
            if (random.nextInt(8) != 0) {
                pair.publish(d);
            }
        }
        int end = 60 + random.nextInt(450);
        for (int i = 0; pair.calls.size() < end && i < end && !pair.wrong; i++) {
            int dice = random.nextInt(100);
            if (dice < crashes) {
                crashing();
            } else if ((dice -= crashes) < attacks) {
                attack();
            } else if ((dice -= attacks) < wild) {
                wildCall();
            } else if ((dice -= wild) < groups) {
                groupCall();
            } else {
                sessionCall();
            }
            if (i % 40 == 39) {
                pair.everything();
            }
        }
        if (!pair.wrong) {
            pair.everything();
        }
        if (!pair.wrong) {
            pair.withoutRefusedCalls();
        }
        tally();
    }

    private void tally() {
        for (int l = 0; l < model.letters.size(); l++) {
            String kind = model.letters.get(l).to == Model.NONE ? "post" : "letter";
            saw("derived " + model.derived(l));
            saw((model.sheltered(l) ? "a sheltered " : "no sheltered ") + kind);
        }
        if (model.doubled() > 0) {
            saw("doubled");
        }
        if (model.forged() > 0) {
            saw("forged");
        }
        if (model.leaked() > 0) {
            saw("leaked");
        }
    }

    private int member() {
        return random.nextInt(members);
    }

    private int other(int d) {
        return (d + 1 + random.nextInt(members - 1)) % members;
    }

    private void arrived(int answer) {
        saw("arrives " + answer);
    }

    private void crashing() {
        int d = member();
        if (random.nextBoolean()) {
            pair.crash(d, random.nextInt(random.nextInt(4) == 0 ? 40 : 8));
        } else if (random.nextInt(3) == 0) {
            pair.look(d);
        } else {
            pair.up(d);
        }
    }

    private void sessionCall() {
        int s = member();
        int d = other(s);
        switch (random.nextInt(12)) {
            case 0:
                if (random.nextInt(3) == 0) {
                    pair.publish(s);
                }
                break;
            case 1:
                if (random.nextInt(3) == 0) {
                    pair.begin(s, d);
                }
                break;
            case 2:
            case 3:
            case 4:
            case 5:
                saw("send " + Math.min(0, pair.send(s, d)));
                break;
            case 6:
                for (int i = random.nextInt(10); i > 0; i--) {
                    pair.send(s, d);
                }
                break;
            case 7:
                if (random.nextInt(4) == 0) {
                    pair.plant(d, random.nextInt(5), -1);
                }
                break;
            default:
                deliverSome();
                break;
        }
    }

    /** Mostly a late wire, and mostly to a device that it may be for. */
    private void deliverSome() {
        int all = model.wires.size();
        if (all == 0) {
            return;
        }
        int back = random.nextInt(random.nextInt(5) == 0 ? all : Math.min(all, 12));
        int w = all - 1 - back;
        Model.T t = model.wires.get(w);
        boolean toAll = t.tag == 'g' || random.nextInt(30) == 0;
        arrived(pair.deliver(toAll ? member() : t.parts[1].nums[1], w));
    }

    private void groupCall() {
        int g = random.nextInt(Math.min(members, 4));
        switch (random.nextInt(12)) {
            case 0:
                int mask = random.nextInt(4) == 0 ? random.nextInt(64) : (1 << members) - 1;
                if (random.nextInt(3) == 0) {
                    mask &= ~(1 << random.nextInt(members));
                }
                int gone = model.devs[g].state.groups.get(g).gone;
                if (random.nextInt(8) != 0) {
                    mask = (mask | 1 << g) & ~gone;
                }
                int w = pair.list(g, mask);
                saw("list " + Math.min(0, w));
                for (int d = 0; d < members && w >= 0; d++) {
                    if (random.nextInt(4) != 0) {
                        arrived(pair.deliver(d, w));
                    }
                }
                break;
            case 1:
            case 2:
            case 3:
                int before = model.wires.size();
                saw("post " + Math.min(0, pair.post(member(), g)));
                boolean inOrder = random.nextBoolean();
                for (int i = before; i < model.wires.size() && inOrder; i++) {
                    Model.T t = model.wires.get(i);
                    for (int d = 0; d < members; d++) {
                        if (t.tag == 'g' || t.parts[1].nums[1] == d) {
                            arrived(pair.deliver(d, i));
                        }
                    }
                }
                break;
            case 4:
                int s = member();
                for (int i = random.nextInt(9); i > 0; i--) {
                    pair.post(s, g);
                }
                break;
            default:
                deliverSome();
                break;
        }
    }

    // ---- the attacker; registers 20 .. 31 are for the attacks below

    private void attack() {
        int d = member();
        int p = other(d);
        switch (random.nextInt(20)) {
            case 16:
            case 17:
                turnAs(d, p);
                break;
            case 18:
                beginTo(d, p);
                break;
            case 19:
                postTo(d, p, random.nextInt(4));
                break;
            case 0:
                pair.look(d);
                break;
            case 1:
                sendAs(d, p);
                break;
            case 2:
                beginAs(d, p);
                break;
            case 3:
                postAs(d, random.nextInt(4));
                break;
            case 4:
                listAs(random.nextInt(4));
                break;
            case 5:
                plantPrekey(d);
                break;
            case 6:
                plantOnce(d);
                break;
            case 7:
                openWire();
                break;
            case 8:
                bendWire();
                break;
            case 9:
                pair.draw(random.nextInt(20));
                break;
            default:
                wander();
                break;
        }
    }

    private boolean takeSeen(int r, Model.T t) {
        int i = t == null ? -1 : model.seen.indexOf(t);
        return i >= 0 && pair.take(r, 3, i) == 1;
    }

    /** Register r gets a row with these numbers and no terms; false if there is no row to alter. */
    private boolean rowIn(int r, int kind, int a, int b, int c, int d) {
        boolean found = false;
        for (int i = 0; i < 30 && !found; i++) {
            found = pair.take(r, 1, i) == 1 && (pair.about(r, 0) == 7 || pair.part(r, r, 5) == 1)
                    && pair.about(r, 0) == 7;
        }
        if (!found) {
            return false;
        }
        pair.alter(r, r, 4, kind);
        int[] numbers = {a, b, c, d};
        for (int i = 0; i < 4; i++) {
            pair.alter(r, r, i, numbers[i]);
            pair.swap(r, r, i, -1);
        }
        return true;
    }

    /** Register 29 gets a body: a letter that is known, another term, a gift, or no good row. */
    private boolean bodyIn29(int g) {
        int what = random.nextInt(5);
        boolean gift = what == 0;
        if (!rowIn(29, gift ? 5 : 4, gift ? g : 0, gift ? 1 + random.nextInt(4) : 0, 0, 0)) {
            return false;
        }
        boolean letter = what > 2 && openedLetter(28);
        if (!letter && pair.draw(28) != 1) {
            return false;
        }
        pair.swap(29, 29, 0, what == 1 ? -1 : 28);
        if (gift) {
            pair.make(27, 10, 28, -1);
            pair.swap(29, 29, 1, 27);
        }
        return true;
    }

    /** Register r gets a letter's secret out of what the attacker can open, if there is one. */
    private boolean openedLetter(int r) {
        List<Integer> held = new ArrayList<>();
        for (int i = 0; i < 20; i++) {
            for (Model.Letter l : model.letters) {
                if (l.secret.equals(model.regs[i])) {
                    held.add(i);
                }
            }
        }
        if (held.isEmpty()) {
            return false;
        }
        int from = held.get(random.nextInt(held.size()));
        return rowIn(r, 1, 0, 0, 0, 0) && pair.swap(r, r, 0, from) == 1 && pair.part(r, r, 0) == 1;
    }

    /** What d would send to p next, with the keys of a look into d. */
    private void sendAs(int d, int p) {
        List<Model.Sess> with = model.devs[d].state.sessions.get(p);
        if (with.isEmpty() || pair.look(d) < 0) {
            return;
        }
        Model.Sess x = with.get(random.nextInt(with.size()));
        boolean known = takeSeen(20, x.send) && takeSeen(21, x.mine) && takeSeen(22, x.base);
        if (!known || !rowIn(24, 3, d, p, x.n, x.before) || !bodyIn29(random.nextInt(4))) {
            return;
        }
        pair.make(21, 10, 21, -1);
        pair.swap(24, 24, 0, 22);
        pair.swap(24, 24, 1, 21);
        if (x.bears && takeSeen(25, x.bornePre)) {
            pair.swap(24, 24, 2, 25);
            if (x.borneOnce != null && takeSeen(25, x.borneOnce)) {
                pair.swap(24, 24, 3, 25);
            }
        }
        pair.make(20, random.nextInt(12) == 0 ? 7 : 6, 20, -1);
        pair.seal(26, 20, 24, 29);
        arrived(pair.inject(p, 26));
    }

    /** A session with p begun in the name of d, whose identity a look gave. */
    private void beginAs(int d, int p) {
        if (pair.look(d) < 0 || !takeSeen(20, model.ids[d]) || pair.take(21, 1, p * 5) != 1
                || pair.part(21, 21, 5) != 1 || pair.part(21, 21, 0) != 1) {
            return;
        }
        boolean once = random.nextBoolean() && pair.take(22, 1, p * 5 + 1 + random.nextInt(4)) == 1
                && pair.part(22, 22, 0) == 1;
        if (pair.draw(23) != 1 || !rowIn(24, 3, d, p, random.nextInt(3), 0) || !bodyIn29(0)) {
            return;
        }
        pair.make(25, 11, 20, 21);
        pair.take(26, 2, p);
        pair.make(26, 11, 23, 26);
        pair.make(25, 0, 25, 26);
        pair.make(26, 11, 23, 21);
        pair.make(25, 1, 25, 26);
        if (once) {
            pair.make(26, 11, 23, 22);
        }
        pair.make(25, once ? 2 : 3, 25, once ? 26 : -1);
        pair.make(30, 10, 23, -1);
        pair.swap(24, 24, 0, 30);
        pair.swap(24, 24, 1, 30);
        pair.swap(24, 24, 2, 21);
        pair.swap(24, 24, 3, once ? 22 : -1);
        pair.make(26, 11, 23, 21);
        pair.make(25, 5, 25, 26);
        int index = model.regs[24].nums[2];
        for (int i = 0; i < index; i++) {
            pair.make(25, 7, 25, -1);
        }
        pair.make(25, 6, 25, -1);
        pair.seal(26, 25, 24, 29);
        arrived(pair.inject(p, 26));
        if (random.nextBoolean()) {
            arrived(pair.inject(p, 26));
        }
    }

    /** Another KEY, maybe one of before, in a session of d with p; a look into d gave the rest. */
    private void turnAs(int d, int p) {
        List<Model.Sess> with = model.devs[d].state.sessions.get(p);
        if (with.isEmpty() || pair.look(d) < 0) {
            return;
        }
        Model.Sess x = with.get(random.nextInt(with.size()));
        int own = 17 + random.nextInt(2);
        boolean known = takeSeen(20, x.root) && takeSeen(21, x.mine) && takeSeen(22, x.base)
                && (pair.about(own, 0) == 1 || pair.draw(own) == 1);
        int n = random.nextInt(7);
        if (!known || !rowIn(24, 3, p, d, n, random.nextInt(x.next + 8))
                || !bodyIn29(random.nextInt(4))) {
            return;
        }
        pair.make(23, 10, own, -1);
        pair.make(25, 11, 21, 23);
        pair.make(25, 5, 20, 25);
        for (int i = 0; i < n; i++) {
            pair.make(25, 7, 25, -1);
        }
        pair.make(25, 6, 25, -1);
        pair.swap(24, 24, 0, 22);
        pair.swap(24, 24, 1, 23);
        pair.seal(26, 25, 24, 29);
        int answer = pair.inject(d, 26);
        arrived(answer);
        saw("turns " + answer);
    }

    /** A session with d begun in the name of p, by the keys that a look into d gave. */
    private void beginTo(int d, int p) {
        Model.Pre pre = random.nextBoolean() ? model.devs[d].state.now : model.devs[d].state.past;
        if (pre == null || pair.look(d) < 0 || !takeSeen(20, model.ids[d])
                || !takeSeen(21, pre.secret) || pair.draw(23) != 1) {
            return;
        }
        List<Model.Once> keys = model.devs[d].state.once;
        boolean once = !keys.isEmpty() && random.nextBoolean()
                && takeSeen(22, keys.get(random.nextInt(keys.size())).secret());
        if (!rowIn(24, 3, p, d, 0, random.nextInt(3)) || !bodyIn29(random.nextInt(4))) {
            return;
        }
        pair.make(30, 10, 23, -1);
        pair.take(25, 2, p);
        pair.make(25, 11, 21, 25);
        pair.make(26, 11, 20, 30);
        pair.make(25, 0, 25, 26);
        pair.make(26, 11, 21, 30);
        pair.make(25, 1, 25, 26);
        if (once) {
            pair.make(26, 11, 22, 30);
        }
        pair.make(25, once ? 2 : 3, 25, once ? 26 : -1);
        pair.make(26, 11, 21, 30);
        pair.make(25, 5, 25, 26);
        pair.make(25, 6, 25, -1);
        pair.swap(24, 24, 0, 30);
        pair.swap(24, 24, 1, 30);
        pair.make(21, 10, 21, -1);
        pair.swap(24, 24, 2, 21);
        if (once) {
            pair.make(22, 10, 22, -1);
            pair.swap(24, 24, 3, 22);
        }
        pair.seal(26, 25, 24, 29);
        int answer = pair.inject(d, 26);
        arrived(answer);
        saw("begun to " + answer);
        arrived(pair.inject(d, 26));
    }

    /** A post to d by the chain that p gave it, signed by p's SIGNER if a look gives that, too. */
    private void postTo(int d, int p, int g) {
        List<Model.Gift> given = model.devs[d].state.groups.get(g).given.get(p);
        if (given.isEmpty() || pair.look(d) < 0) {
            return;
        }
        Model.Gift key = given.get(random.nextInt(given.size()));
        int ahead = random.nextInt(7);
        if (!takeSeen(20, key.chain) || !bodyIn29(g)
                || !rowIn(24, 7, g, p, key.generation, key.next + ahead)) {
            return;
        }
        for (int i = 0; i < ahead; i++) {
            pair.make(20, 7, 20, -1);
        }
        pair.make(20, 6, 20, -1);
        pair.seal(26, 20, 24, 29);
        Model.T signer = model.devs[p].state.groups.get(g).signer;
        boolean signs = pair.look(p) >= 0 && takeSeen(21, signer);
        if (signs || pair.draw(21) == 1) {
            pair.make(26, 12, 21, 26);
            int answer = pair.inject(d, 26);
            arrived(answer);
            saw("posted to " + answer);
        }
    }

    private void postAs(int d, int g) {
        Model.Grp x = model.devs[d].state.groups.get(g);
        if (x.generation == 0 || pair.look(d) < 0 || !takeSeen(20, x.chain)
                || !takeSeen(21, x.signer) || !bodyIn29(g)
                || !rowIn(24, 7, g, d, x.generation, x.index)) {
            return;
        }
        pair.make(20, random.nextInt(12) == 0 ? 7 : 6, 20, -1);
        pair.seal(26, 20, 24, 29);
        if (random.nextInt(12) == 0) {
            pair.draw(21);
        }
        pair.make(26, 12, 21, 26);
        for (int p = 0; p < members; p++) {
            arrived(pair.inject(p, 26));
        }
    }

    private void listAs(int g) {
        int version = random.nextInt(8) == 0 ? Integer.MAX_VALUE : random.nextInt(5);
        if (pair.look(g) < 0 || !takeSeen(20, model.ids[g])
                || !rowIn(24, 6, g, version, random.nextInt(64) | 1 << g, 0)) {
            return;
        }
        pair.make(26, 12, 20, 24);
        for (int p = 0; p < members; p++) {
            arrived(pair.inject(p, 26));
        }
    }

    private void plantPrekey(int d) {
        if (pair.look(d) < 0 || !takeSeen(20, model.ids[d]) || pair.draw(21) != 1
                || !rowIn(24, 1, random.nextInt(8) == 0 ? 5 : d, random.nextInt(9), 0, 0)) {
            return;
        }
        pair.make(21, 10, 21, -1);
        pair.swap(24, 24, 0, 21);
        pair.make(26, 12, 20, 24);
        pair.plant(d, 0, 26);
    }

    private void plantOnce(int d) {
        if (pair.draw(21) != 1 || !rowIn(24, 2, random.nextInt(8) == 0 ? 5 : d, 3, 0, 0)) {
            return;
        }
        pair.make(21, 10, 21, -1);
        pair.swap(24, 24, 0, 21);
        pair.plant(d, 1 + random.nextInt(4), 24);
    }

    /** Opens a wire with the keys of a look, where the model finds one that fits. */
    private void openWire() {
        for (int w = model.wires.size() - 1; w >= 0; w--) {
            Model.T t = model.wires.get(w);
            Model.T sealed = t.tag == 'g' ? t.parts[1] : t;
            if (sealed.tag != 'e') {
                continue;
            }
            Model.T chain = sealed.parts[0].parts[0];
            if (takeSeen(20, sealed.parts[0]) || takeSeen(20, chain) && pair.make(20, 6, 20, -1) == 1) {
                pair.take(21, 0, w);
                pair.part(21, 21, 5);
                int r = random.nextInt(20);
                saw("unseal " + pair.unseal(r, 21, 20));
                pair.part(r, r, 0);
                return;
            }
        }
    }

    /** A wire with another head, whose key can hardly be right any more. */
    private void bendWire() {
        if (model.wires.isEmpty()) {
            return;
        }
        pair.take(20, 0, random.nextInt(model.wires.size()));
        if (pair.about(20, 0) != 5) {
            return;
        }
        pair.part(21, 20, 4);
        int k = random.nextInt(5);
        pair.alter(21, 21, k, random.nextInt(k == 4 ? 9 : 7) - 1);
        if (random.nextInt(3) == 0) {
            pair.take(22, 2, member());
            pair.swap(21, 21, random.nextInt(4), random.nextInt(2) == 0 ? 22 : -1);
        }
        if (pair.draw(22) == 1) {
            pair.seal(23, 22, 21, 21);
            for (int p = 0; p < members; p++) {
                arrived(pair.inject(p, 23));
            }
        }
    }

    private int reg() {
        return random.nextInt(12);
    }

    /** Calls of the attacker without a plan. */
    private void wander() {
        int r = reg();
        int x = reg();
        int y = random.nextInt(6) == 0 ? -1 : reg();
        switch (random.nextInt(12)) {
            case 0:
                pair.take(r, 0, random.nextInt(model.wires.size() + 1));
                break;
            case 1:
                pair.take(r, 1 + random.nextInt(3), random.nextInt(30));
                break;
            case 2:
                pair.part(r, x, random.nextInt(6));
                break;
            case 3:
                saw("unseal " + pair.unseal(r, x, y));
                break;
            case 4:
                pair.make(r, random.nextInt(13), x, y);
                break;
            case 5:
                pair.make(r, 10 + random.nextInt(3), x, y);
                break;
            case 6:
                pair.seal(r, x, y, reg());
                break;
            case 7:
                pair.alter(r, x, random.nextInt(5), random.nextInt(8));
                break;
            case 8:
                pair.swap(r, x, random.nextInt(4), y);
                break;
            case 9:
                pair.plant(member(), random.nextInt(5), y);
                break;
            case 10:
                pair.same(r, x);
                break;
            default:
                arrived(pair.inject(member(), x));
                break;
        }
    }

    // ---- any call with any arguments

    private int any() {
        int[] odd = {Integer.MIN_VALUE, -100, -7, -2, -1, 4, 5, 6, 7, 8, 29, 30, 31, 32, 63, 64, 200,
            201, 699, 700, Integer.MAX_VALUE};
        return random.nextInt(3) == 0 ? odd[random.nextInt(odd.length)] : random.nextInt(7);
    }

    private void wildCall() {
        switch (random.nextInt(24)) {
            case 0:
                pair.publish(any());
                break;
            case 1:
                pair.begin(any(), any());
                break;
            case 2:
                pair.send(any(), any());
                break;
            case 3:
                pair.list(any(), any());
                break;
            case 4:
                pair.post(any(), any());
                break;
            case 5:
                arrived(pair.deliver(any(), any()));
                break;
            case 6:
                arrived(pair.inject(any(), any()));
                break;
            case 7:
                pair.crash(any(), any());
                break;
            case 8:
                pair.up(any());
                break;
            case 9:
                pair.draw(any());
                break;
            case 10:
                pair.take(any(), any(), any());
                break;
            case 11:
                pair.part(any(), any(), any());
                break;
            case 12:
                pair.unseal(any(), any(), any());
                break;
            case 13:
                pair.make(any(), any() + random.nextInt(8), any(), any());
                break;
            case 14:
                pair.seal(any(), any(), any(), any());
                break;
            case 15:
                pair.alter(any(), any(), any(), any());
                break;
            case 16:
                pair.swap(any(), any(), any(), any());
                break;
            case 17:
                pair.plant(any(), any(), any());
                break;
            case 18:
                pair.look(any());
                break;
            case 19:
                pair.same(any(), any());
                break;
            case 20:
                pair.about(any(), any());
                break;
            case 21:
                pair.taken(any(), any());
                break;
            case 22:
                pair.session(any(), any(), any(), any());
                break;
            default:
                pair.group(any(), any(), any());
                break;
        }
    }
}
