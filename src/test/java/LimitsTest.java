import java.lang.reflect.InvocationTargetException;
import java.lang.reflect.Method;
import java.lang.reflect.Modifier;
import java.util.ArrayList;
import java.util.Comparator;
import java.util.List;
import java.util.Random;

/** FULL, and that no call ever throws, however many there are. */
public final class LimitsTest {
    private LimitsTest() {
    }

    public static void main(String[] args) throws ReflectiveOperationException {
        fullOfWires();
        eightWiresAreLeft();
        fortyDrawsAreLeft();
        aPostThatFits();
        theFirstOfTheseRefusals();
        anyNumberOfTerms();
        anyNumberOfCalls();
        Check.end();
    }

    /** 692 wires leave eight, and one more leaves seven: in less than 512 calls. */
    private static void fullOfWires() {
        SealedHouse x = new SealedHouse();
        int calls = Many.wires(x, 692);
        Check.due("eight are left", x.send(0, 1), 692);
        Check.all("FULL", Check.answers(x.send(0, 1), x.begin(0, 1), x.publish(0), x.list(0, 1),
                x.post(0, 0), x.draw(0)), -2, -2, -2, -2, -2, -2);
        Check.all("NONE comes first", Check.answers(x.send(0, 0), x.begin(0, 6), x.publish(-1),
                x.list(4, 1), x.list(0, 64), x.post(0, 4), x.draw(32)), -1, -1, -1, -1, -1, -1, -1);
        Check.all("others are not", Check.answers(x.crash(0, 0), x.up(0), x.take(0, 2, 0),
                x.make(0, 0, 0, -1), x.look(5) > 0 ? 1 : 0), 1, 0, 1, 1, 1);
        Check.due("FULL comes ahead of what is told", x.list(0, 0), -2);
        Check.due("calls are at most 512", calls + 21 <= 512 ? 1 : 0, 1);
        Check.due("out of reach", x.deliver(1, 692), -13);
        Check.due("wires", x.count(0), 693);
    }

    private static final String[] MAKERS = {"publish", "begin", "send", "list", "post", "draw"};

    private static int maker(SealedHouse x, int which) {
        switch (which) {
            case 0:
                return x.publish(0);
            case 1:
                return x.begin(0, 1);
            case 2:
                return x.send(0, 1);
            case 3:
                return x.list(0, 1);
            case 4:
                return x.post(0, 0);
            default:
                return x.draw(0);
        }
    }

    /** "publish, begin, send, list, post and draw are FULL when fewer than .. 8 wires are left" */
    private static void eightWiresAreLeft() {
        for (int which = 0; which < MAKERS.length; which++) {
            int call = which;
            Twins t = new Twins();
            t.run(x -> Many.wires(x, 692));
            t.run(x -> {
                int answer = maker(x, call);
                Check.due(MAKERS[call] + ": eight are left", answer >= 0 ? 1 : answer, 1);
                while (x.count(0) < 693) {
                    x.send(2, 3);
                }
            });
            t.refused(MAKERS[which] + ": seven are left", x -> maker(x, call), SealedHouse.FULL);
            t.end();
        }
    }

    /** "3,000 DRAWS ever" and "when fewer than 40 DRAWS .. are left" */
    private static void fortyDrawsAreLeft() {
        for (int which = 0; which < MAKERS.length; which++) {
            int call = which;
            Twins t = Twins.published(2);
            t.due("list", x -> x.list(0, 1), 0);
            t.run(x -> draws(x, 2960));
            t.run(x -> {
                int answer = maker(x, call);
                Check.due(MAKERS[call] + ": forty are left", answer >= 0 ? 1 : answer, 1);
                draws(x, 2961);
            });
            t.refused(MAKERS[which] + ": 39 are left", x -> maker(x, call), SealedHouse.FULL);
            t.end();
        }
    }

    private static void draws(SealedHouse x, int all) {
        while (x.count(2) < all && x.draw(31) == 1) {
            continue;
        }
        Check.due("DRAWS", x.count(2) >= all ? 1 : 0, 1);
    }

    /** "700 wires ever": with eight left, a post to all still has room for its six wires. */
    private static void aPostThatFits() {
        Twins t = new Twins();
        t.run(x -> {
            int calls = Many.groups(x, 3);
            calls += Many.everybodyPosts(x, 3, 63, 63, 31);
            calls += Many.everybodyPosts(x, 3, 62, 30, 30);
            calls += Many.sends(x, 692);
            Check.due("less than 512 calls", calls < 512 ? 1 : 0, 1);
        });
        t.due("five gifts, the post", x -> x.post(5, 3), 697);
        t.due("wires", x -> x.count(0), 698);
        t.refused("two are left", x -> x.post(5, 3), SealedHouse.FULL);
        t.due("its fourth gift to 3 is taken", x -> x.deliver(3, 695), 2);
        t.end();
    }

    /** "Refusals, the first of these: NONE ..; FULL; DOWN ..; then others as told" */
    private static void theFirstOfTheseRefusals() {
        Twins t = new Twins();
        t.run(x -> Many.wires(x, 692));
        t.due("crash", x -> x.crash(0, 0), 1);
        t.due("cut", x -> x.publish(0), SealedHouse.CRASHED);
        for (int which = 0; which < 5; which++) {
            int call = which;
            t.refused(MAKERS[which] + ": DOWN", x -> maker(x, call), SealedHouse.DOWN);
        }
        t.due("the 693rd", x -> x.send(1, 2), 692);
        for (int which = 0; which < MAKERS.length; which++) {
            int call = which;
            t.refused(MAKERS[which] + ": FULL ahead of DOWN", x -> maker(x, call), SealedHouse.FULL);
        }
        t.refused("NONE ahead of FULL", x -> x.publish(6), SealedHouse.NONE);
        t.refused("NONE ahead of FULL", x -> x.begin(0, 0), SealedHouse.NONE);
        t.refused("NONE ahead of FULL", x -> x.send(0, 6), SealedHouse.NONE);
        t.refused("NONE ahead of FULL", x -> x.list(0, 64), SealedHouse.NONE);
        t.refused("NONE ahead of FULL", x -> x.post(0, 4), SealedHouse.NONE);
        t.refused("NONE ahead of FULL", x -> x.draw(32), SealedHouse.NONE);
        t.refused("FULL ahead of -6", x -> x.list(1, 0), SealedHouse.FULL);
        t.refused("deliver is DOWN", x -> x.deliver(0, 1), SealedHouse.DOWN);
        t.due("and up as ever", x -> x.up(0), 1);
        t.refused("deliver is not FULL", x -> x.deliver(0, 692), -11);
        t.due("nor is what can be taken", x -> x.deliver(1, 1), 2);
        t.end();
    }

    /** Other terms than any before, far behind the 512th call: FULL is as good as any answer. */
    private static void anyNumberOfTerms() {
        SealedHouse x = new SealedHouse();
        x.publish(0);
        x.publish(1);
        x.draw(0);
        for (int i = 0; i < 512; i++) {
            Check.due("make", x.make(0, i % 10, 0, -1), 1);
        }
        int last = 1;
        for (int i = 0; i < 200_000; i++) {
            last = x.make(0, i % 10, 0, -1);
        }
        Check.due("no room", last, SealedHouse.FULL);
        x.take(1, 1, 0);
        x.part(1, 1, 5);
        Check.all("no room", Check.answers(x.send(0, 1), x.seal(2, 0, 0, 0), x.alter(2, 1, 0, 5),
                x.swap(2, 1, 0, 0), x.inject(0, 1)), -2, -2, -2, -2, -2);
        Check.all("all the rest", Check.answers(x.count(0), x.look(1), x.leaked(), x.up(1)),
                0, 6, 0, 0);
    }

    /** Every public method with odd arguments, far beyond what one object is promised for. */
    private static void anyNumberOfCalls() throws ReflectiveOperationException {
        List<Method> methods = new ArrayList<>();
        for (Method m : SealedHouse.class.getDeclaredMethods()) {
            if (Modifier.isPublic(m.getModifiers())) {
                methods.add(m);
            }
        }
        methods.sort(Comparator.comparing(Method::getName));
        Check.due("methods", methods.size(), 31);
        for (int seed = 0; seed < 6; seed++) {
            Random random = new Random(seed);
            SealedHouse x = new SealedHouse();
            for (int i = 0; i < 120_000; i++) {
                call(x, methods.get(random.nextInt(methods.size())), random, seed % 2 == 0);
            }
        }
    }

    private static void call(SealedHouse x, Method m, Random random, boolean tame)
            throws ReflectiveOperationException {
        Object[] args = new Object[m.getParameterCount()];
        int[] odd = {Integer.MIN_VALUE, -1, 10, 12, 31, 32, 63, 64, 699, 700, Integer.MAX_VALUE};
        for (int i = 0; i < args.length; i++) {
            boolean plain = tame || random.nextInt(4) != 0;
            args[i] = plain ? random.nextInt(random.nextInt(8) == 0 ? 700 : 6)
                    : odd[random.nextInt(odd.length)];
        }
        try {
            m.invoke(x, args);
        } catch (InvocationTargetException e) {
            Check.due(m.getName() + " threw " + e.getCause(), 1, 0);
        }
    }
}
