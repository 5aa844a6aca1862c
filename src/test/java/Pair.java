import java.lang.reflect.Field;
import java.lang.reflect.Method;
import java.util.ArrayList;
import java.util.List;

/** The program and the model side by side: every call goes to both, and their answers must agree. */
final class Pair {
    final SealedHouse house = new SealedHouse();
    final Model model = new Model();
    final List<String> calls = new ArrayList<>();
    private final List<Made> made = new ArrayList<>();
    boolean wrong;

    /** A call, and what was due. */
    private record Made(String name, int[] args, int want) {
        boolean isRefused() {
            return want < 0 && want != SealedHouse.CRASHED;
        }
    }

    private int both(int got, int want, String name, int... args) {
        StringBuilder b = new StringBuilder(name).append('(');
        for (int i = 0; i < args.length; i++) {
            b.append(i == 0 ? "" : ", ").append(args[i]);
        }
        calls.add(b.append(") = ").append(got).toString());
        made.add(new Made(name, args, want));
        if (got != want && !wrong) {
            wrong = true;
            System.out.println("the model says " + want + " at the end of:");
            for (String call : calls) {
                System.out.println("  " + call);
            }
        }
        return want;
    }

    int publish(int d) {
        return both(house.publish(d), model.publish(d), "publish", d);
    }

    int begin(int s, int d) {
        return both(house.begin(s, d), model.begin(s, d), "begin", s, d);
    }

    int send(int s, int d) {
        return both(house.send(s, d), model.send(s, d), "send", s, d);
    }

    int list(int g, int mask) {
        return both(house.list(g, mask), model.list(g, mask), "list", g, mask);
    }

    int post(int s, int g) {
        return both(house.post(s, g), model.post(s, g), "post", s, g);
    }

    int deliver(int d, int w) {
        return both(house.deliver(d, w), model.deliver(d, w), "deliver", d, w);
    }

    int inject(int d, int r) {
        return both(house.inject(d, r), model.inject(d, r), "inject", d, r);
    }

    int crash(int d, int k) {
        return both(house.crash(d, k), model.crash(d, k), "crash", d, k);
    }

    int up(int d) {
        return both(house.up(d), model.up(d), "up", d);
    }

    int draw(int r) {
        return both(house.draw(r), model.draw(r), "draw", r);
    }

    int take(int r, int what, int i) {
        return both(house.take(r, what, i), model.take(r, what, i), "take", r, what, i);
    }

    int part(int r, int x, int what) {
        return both(house.part(r, x, what), model.part(r, x, what), "part", r, x, what);
    }

    int unseal(int r, int x, int k) {
        return both(house.unseal(r, x, k), model.unseal(r, x, k), "unseal", r, x, k);
    }

    int make(int r, int what, int x, int y) {
        return both(house.make(r, what, x, y), model.make(r, what, x, y), "make", r, what, x, y);
    }

    int seal(int r, int k, int h, int b) {
        return both(house.seal(r, k, h, b), model.seal(r, k, h, b), "seal", r, k, h, b);
    }

    int alter(int r, int x, int k, int v) {
        return both(house.alter(r, x, k, v), model.alter(r, x, k, v), "alter", r, x, k, v);
    }

    int swap(int r, int x, int k, int y) {
        return both(house.swap(r, x, k, y), model.swap(r, x, k, y), "swap", r, x, k, y);
    }

    int plant(int d, int place, int r) {
        return both(house.plant(d, place, r), model.plant(d, place, r), "plant", d, place, r);
    }

    int look(int d) {
        return both(house.look(d), model.look(d), "look", d);
    }

    int same(int x, int y) {
        return both(house.same(x, y), model.same(x, y), "same", x, y);
    }

    int about(int x, int what) {
        return both(house.about(x, what), model.about(x, what), "about", x, what);
    }

    int derived(int l) {
        return both(house.derived(l), model.derived(l), "derived", l);
    }

    int letter(int w) {
        return both(house.letter(w), model.letter(w), "letter", w);
    }

    int taken(int d, int what) {
        return both(house.taken(d, what), model.taken(d, what), "taken", d, what);
    }

    int device(int d, int what) {
        return both(house.device(d, what), model.device(d, what), "device", d, what);
    }

    int session(int d, int p, int k, int what) {
        return both(house.session(d, p, k, what), model.session(d, p, k, what),
                "session", d, p, k, what);
    }

    int group(int d, int g, int what) {
        return both(house.group(d, g, what), model.group(d, g, what), "group", d, g, what);
    }

    int count(int what) {
        return both(house.count(what), model.count(what), "count", what);
    }

    void totals() {
        both(house.forged(), model.forged(), "forged");
        both(house.doubled(), model.doubled(), "doubled");
        both(house.leaked(), model.leaked(), "leaked");
    }

    /**
     * leaked() can't be other than 0 while keys are kept as the document says, so that its clauses
     * are looked at inside the program, for each letter.
     */
    int shelteredLetters() {
        int sheltered = 0;
        try {
            Object ledger = inside("ledger");
            Object terms = inside("terms");
            Method clauses = ledger.getClass()
                    .getDeclaredMethod("isSheltered", terms.getClass(), int.class);
            clauses.setAccessible(true);
            for (int l = 0; l < model.letters.size(); l++) {
                boolean got = (boolean) clauses.invoke(ledger, terms, l);
                sheltered += both(got ? 1 : 0, model.sheltered(l) ? 1 : 0, "a clause of leaked", l);
            }
        } catch (ReflectiveOperationException e) {
            throw new IllegalStateException(e);
        }
        return sheltered;
    }

    private Object inside(String name) throws ReflectiveOperationException {
        Field field = SealedHouse.class.getDeclaredField(name);
        field.setAccessible(true);
        return field.get(house);
    }

    /** Everything that can be asked; asking changes nothing, so it may be asked at any time. */
    void everything() {
        int before = calls.size();
        askEverything();
        if (!wrong) {
            calls.subList(before, calls.size()).clear();
            made.subList(before, made.size()).clear();
        }
    }

    /**
     * "What is refused changes nothing": a new object that is spared all calls that were refused
     * answers all others alike, and has come to the same in the end.
     */
    void withoutRefusedCalls() {
        SealedHouse spared = new SealedHouse();
        try {
            for (Made call : made) {
                if (!call.isRefused()) {
                    int got = invoke(spared, call);
                    wrong |= got != call.want;
                }
            }
        } catch (ReflectiveOperationException e) {
            throw new IllegalStateException(e);
        }
        wrong |= !Ask.everything(house, 0).equals(Ask.everything(spared, 0));
        if (wrong) {
            System.out.println("a refused call changed something in:");
            calls.forEach(System.out::println);
        }
    }

    private static int invoke(SealedHouse x, Made call) throws ReflectiveOperationException {
        Class<?>[] types = new Class<?>[call.args.length];
        Object[] args = new Object[call.args.length];
        for (int i = 0; i < args.length; i++) {
            types[i] = int.class;
            args[i] = call.args[i];
        }
        return (int) SealedHouse.class.getMethod(call.name, types).invoke(x, args);
    }

    private void askEverything() {
        for (int d = -1; d <= 6; d++) {
            for (int what = -1; what <= 8; what++) {
                device(d, what);
                taken(d, what);
            }
            for (int p = -1; p <= 6; p++) {
                for (int k = -1; k <= 2; k++) {
                    for (int what = -1; what <= 7; what++) {
                        session(d, p, k, what);
                    }
                }
            }
            for (int g = -1; g <= 4; g++) {
                for (int what = -2; what <= 51; what++) {
                    group(d, g, what);
                }
            }
        }
        for (int l = -1; l <= model.letters.size(); l++) {
            derived(l);
        }
        for (int w = -1; w <= model.wires.size(); w++) {
            letter(w);
        }
        for (int r = -1; r <= 32; r++) {
            for (int what = -1; what <= 6; what++) {
                about(r, what);
            }
        }
        for (int what = -1; what <= 3; what++) {
            count(what);
        }
        totals();
        shelteredLetters();
    }
}
