import java.io.IOException;
import java.lang.reflect.Array;
import java.lang.reflect.Constructor;
import java.lang.reflect.Field;
import java.lang.reflect.Method;
import java.lang.reflect.Modifier;
import java.nio.file.Files;
import java.nio.file.Path;
import java.util.ArrayDeque;
import java.util.Collections;
import java.util.Deque;
import java.util.IdentityHashMap;
import java.util.List;
import java.util.Set;
import java.util.TreeSet;
import java.util.regex.Matcher;
import java.util.regex.Pattern;

/** The rules of LANGUAGE.md that can be seen from the text or the classes, and the room. */
public final class LanguageTest {
    private static final List<String> FACE = List.of("publish 1", "begin 2", "send 2", "list 2",
            "post 2", "deliver 2", "inject 2", "crash 2", "up 1", "draw 1", "take 3", "part 3",
            "unseal 3", "make 4", "seal 4", "alter 4", "swap 4", "plant 3", "look 1", "same 2",
            "about 2", "derived 1", "letter 1", "taken 2", "device 2", "session 4", "group 3",
            "count 1", "forged 0", "doubled 0", "leaked 0");
    private static final List<String> FORBIDDEN = List.of("\\bthrows?\\b", "\\btry\\b",
            "\\bcatch\\b", "\\bsynchronized\\b", "\\bassert\\b", "->", "::", "\\w+Exact\\b",
            "\\bequals\\b", "\\bhashCode\\b", "\\btoString\\b", "\\bSystem\\.(?!arraycopy)",
            "\\bimport (?!java\\.util\\.Arrays;)", "\\bstatic(?! final)(?! \\w+ \\w+\\()",
            "\\bvolatile\\b", "\\bfinally\\b", "\\bprotected\\b", "^package\\b", "\\bObject\\b");

    private LanguageTest() {
    }

    public static void main(String[] args) throws IOException, ReflectiveOperationException {
        constants();
        face();
        text(Files.readString(Path.of("src/main/java/SealedHouse.java")));
        room();
        Check.end();
    }

    private static void constants() {
        Check.all("constants", Check.answers(SealedHouse.NONE, SealedHouse.FULL, SealedHouse.DOWN,
                SealedHouse.CRASHED), -1, -2, -3, -4);
    }

    private static void face() {
        Class<?> c = SealedHouse.class;
        Check.due("public final", c.getModifiers(), Modifier.PUBLIC | Modifier.FINAL);
        Set<String> open = new TreeSet<>();
        Set<String> names = new TreeSet<>();
        for (String method : FACE) {
            names.add(method.substring(0, method.indexOf(' ')));
        }
        for (Method m : c.getDeclaredMethods()) {
            if (!Modifier.isPrivate(m.getModifiers())) {
                open.add(m.getName() + " " + m.getParameterCount());
            } else {
                no("a private method with a public name", names.contains(m.getName()), m.getName());
            }
        }
        no("another face", !open.equals(new TreeSet<>(FACE)), open.toString());
        for (Constructor<?> k : c.getDeclaredConstructors()) {
            Check.due("constructor", k.getParameterCount(), 0);
        }
        for (Field f : c.getDeclaredFields()) {
            boolean constant = List.of("NONE", "FULL", "DOWN", "CRASHED").contains(f.getName());
            no("an open field", constant == Modifier.isPrivate(f.getModifiers()), f.getName());
        }
        Check.due("some twelve classes", c.getDeclaredClasses().length <= 11 ? 1 : 0, 1);
        for (Class<?> inner : c.getDeclaredClasses()) {
            no("not static", !Modifier.isStatic(inner.getModifiers()), inner.getName());
            int fields = 0;
            for (Field f : inner.getDeclaredFields()) {
                fields += Modifier.isStatic(f.getModifiers()) ? 0 : 1;
            }
            no("more than twenty fields", fields > 20, inner.getName());
            for (Method m : inner.getDeclaredMethods()) {
                no("a public name inside", names.contains(m.getName()), m.getName());
                no("more than seven parameters", m.getParameterCount() > 7, m.getName());
            }
        }
    }

    private static void no(String what, boolean found, String where) {
        Check.due(what + ": " + where, found ? 1 : 0, 0);
    }

    private static void text(String source) {
        String code = source.replaceAll("(?s)/\\*.*?\\*/", "").replaceAll("//[^\n]*", "");
        for (String rule : FORBIDDEN) {
            Matcher m = Pattern.compile(rule, Pattern.MULTILINE).matcher(code);
            no("the text has " + rule, m.find(), rule);
        }
        no("a text constant", code.indexOf('"') >= 0, "\"");
        int start = 0;
        String[] lines = code.split("\n");
        for (int i = 0; i < lines.length; i++) {
            if (lines[i].matches(" {4,8}[\\w\\[\\] ]+\\(.*\\{")) {
                start = i;
            }
            if (lines[i].matches(" {4}( {4})?\\}")) {
                no("more than sixty lines", i - start > 60, lines[start].trim());
                start = i;
            }
        }
    }

    /** A run that makes much must stay far below the room that all calls live in. */
    private static void room() throws ReflectiveOperationException {
        SealedHouse x = new SealedHouse();
        long[] fresh = held(x);
        no("much at the beginning", fresh[0] > 3_000 || fresh[1] > 100_000,
                fresh[0] + " objects, " + fresh[1] + " elements");
        for (int d = 0; d < 6; d++) {
            x.publish(d);
        }
        for (int g = 0; g < 4; g++) {
            int w = x.list(g, 63);
            for (int d = 0; d < 6; d++) {
                x.deliver(d, w);
            }
        }
        for (int i = 0; i < 156; i++) {
            x.crash(i % 6, 0);
            x.post(i % 6, i % 4);
            x.up(i % 6);
        }
        long[] full = held(x);
        no("much at the end", full[0] > 3_000 || full[1] > 1_500_000,
                full[0] + " objects, " + full[1] + " elements");
        System.out.println("a new object: " + fresh[0] + " objects, " + fresh[1]
                + " elements; behind posts that crash: " + full[0] + ", " + full[1]);
    }

    private static long[] held(SealedHouse x) throws ReflectiveOperationException {
        Set<Object> met = Collections.newSetFromMap(new IdentityHashMap<>());
        Deque<Object> open = new ArrayDeque<>();
        open.add(x);
        long elements = 0;
        while (!open.isEmpty()) {
            Object o = open.remove();
            if (!met.add(o)) {
                continue;
            }
            if (o.getClass().isArray()) {
                int length = Array.getLength(o);
                elements += length;
                for (int i = 0; i < length && !o.getClass().getComponentType().isPrimitive(); i++) {
                    open.add(Array.get(o, i));
                }
                continue;
            }
            for (Field f : o.getClass().getDeclaredFields()) {
                if (!Modifier.isStatic(f.getModifiers())) {
                    elements++;
                    f.setAccessible(true);
                    Object value = f.getType().isPrimitive() ? null : f.get(o);
                    if (value != null) {
                        open.add(value);
                    }
                }
            }
        }
        return new long[] {met.size(), elements};
    }
}
