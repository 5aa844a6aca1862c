import java.lang.reflect.InvocationTargetException;
import java.lang.reflect.Method;
import java.lang.reflect.Modifier;
import java.util.ArrayList;
import java.util.Comparator;
import java.util.List;
import java.util.Random;

/** FULL, and that no call ever throws, however many there are. */
public final class LimitsTest {
    private LimitsTest() {
    }

    public static void main(String[] args) throws ReflectiveOperationException {
        fullOfWires();
        fullOfDraws();
        anyNumberOfTerms();
        anyNumberOfCalls();
        Check.end();
    }

    private static int calls;

    private static int did(int answer) {
        calls++;
        return answer;
    }

    /** 692 wires leave eight, and one more leaves seven: in less than 512 calls. */
    private static void fullOfWires() {
        SealedHouse x = new SealedHouse();
        for (int d = 0; d < 6; d++) {
            did(x.publish(d));
        }
        for (int g = 0; g < 4; g++) {
            int mask = 63;
            for (int gone = 5; mask != 0; gone = gone == g + 1 ? g - 1 : gone - 1) {
                everybodyPosts(x, g, mask);
                mask = mask == 1 << g ? 0 : mask & ~(1 << gone);
            }
        }
        int w = x.count(0);
        for (; w < 692; w++) {
            Check.due("send", did(x.send(0, 1)), w);
        }
        Check.due("eight are left", did(x.send(0, 1)), 692);
        Check.all("FULL", Check.answers(x.send(0, 1), x.begin(0, 1), x.publish(0), x.list(0, 1),
                x.post(0, 0), x.draw(0)), -2, -2, -2, -2, -2, -2);
        Check.all("NONE comes first", Check.answers(x.send(0, 0), x.begin(0, 6), x.publish(-1),
                x.list(4, 1), x.list(0, 64), x.post(0, 4), x.draw(32)), -1, -1, -1, -1, -1, -1, -1);
        Check.all("others are not", Check.answers(x.crash(0, 0), x.up(0), x.take(0, 2, 0),
                x.make(0, 0, 0, -1), x.look(5) > 0 ? 1 : 0), 1, 0, 1, 1, 1);
        Check.due("FULL comes ahead of what is told", x.list(0, 0), -2);
        Check.due("calls are at most 512", calls <= 512 ? 1 : 0, 1);
        Check.due("a crash waits", x.deliver(1, 692), -13);
        Check.due("wires", x.count(0), 693);
    }

    private static void everybodyPosts(SealedHouse x, int g, int mask) {
        int w = did(x.list(g, mask));
        for (int d = 0; d < 6; d++) {
            if (d != g && (mask >> d & 1) == 1) {
                Check.due("list", did(x.deliver(d, w)), 3);
            }
        }
        for (int d = 0; d < 6; d++) {
            if ((mask >> d & 1) == 1) {
                w += Integer.bitCount(mask);
                Check.due("post", did(x.post(d, g)), w);
            }
        }
    }

    private static void fullOfDraws() {
        SealedHouse x = new SealedHouse();
        for (int n = 6; n < 2960; n++) {
            Check.due("draw", x.draw(0), 1);
        }
        Check.due("40 are left", x.draw(0), 1);
        Check.due("39 are left", x.draw(0), -2);
        Check.all("FULL", Check.answers(x.publish(0), x.list(0, 1), x.count(2)), -2, -2, 2961);
    }

    /** Other terms than any before, far behind the 512th call: FULL is as good as any answer. */
    private static void anyNumberOfTerms() {
        SealedHouse x = new SealedHouse();
        x.publish(0);
        x.publish(1);
        x.draw(0);
        for (int i = 0; i < 512; i++) {
            Check.due("make", x.make(0, i % 10, 0, -1), 1);
        }
        int last = 1;
        for (int i = 0; i < 200_000; i++) {
            last = x.make(0, i % 10, 0, -1);
        }
        Check.due("no room", last, SealedHouse.FULL);
        x.take(1, 1, 0);
        x.part(1, 1, 5);
        Check.all("no room", Check.answers(x.send(0, 1), x.seal(2, 0, 0, 0), x.alter(2, 1, 0, 5),
                x.swap(2, 1, 0, 0), x.inject(0, 1)), -2, -2, -2, -2, -2);
        Check.all("all the rest", Check.answers(x.count(0), x.look(1), x.leaked(), x.up(1)),
                0, 6, 0, 0);
    }

    /** Every public method with odd arguments, far beyond what one object is promised for. */
    private static void anyNumberOfCalls() throws ReflectiveOperationException {
        List<Method> methods = new ArrayList<>();
        for (Method m : SealedHouse.class.getDeclaredMethods()) {
            if (Modifier.isPublic(m.getModifiers())) {
                methods.add(m);
            }
        }
        methods.sort(Comparator.comparing(Method::getName));
        Check.due("methods", methods.size(), 31);
        for (int seed = 0; seed < 6; seed++) {
            Random random = new Random(seed);
            SealedHouse x = new SealedHouse();
            for (int i = 0; i < 120_000; i++) {
                call(x, methods.get(random.nextInt(methods.size())), random, seed % 2 == 0);
            }
        }
    }

    private static void call(SealedHouse x, Method m, Random random, boolean tame)
            throws ReflectiveOperationException {
        Object[] args = new Object[m.getParameterCount()];
        int[] odd = {Integer.MIN_VALUE, -1, 10, 12, 31, 32, 63, 64, 699, 700, Integer.MAX_VALUE};
        for (int i = 0; i < args.length; i++) {
            boolean plain = tame || random.nextInt(4) != 0;
            args[i] = plain ? random.nextInt(random.nextInt(8) == 0 ? 700 : 6)
                    : odd[random.nextInt(odd.length)];
        }
        try {
            m.invoke(x, args);
        } catch (InvocationTargetException e) {
            Check.due(m.getName() + " threw " + e.getCause(), 1, 0);
        }
    }
}
