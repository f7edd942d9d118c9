import java.io.IOException;
import java.lang.management.ManagementFactory;
import java.lang.reflect.Constructor;
import java.lang.reflect.Field;
import java.lang.reflect.Method;
import java.lang.reflect.Modifier;
import java.nio.file.Files;
import java.nio.file.Path;
import java.util.Set;
import java.util.TreeSet;

/** The public face, the words that the class must not use, and the room that a run of dear calls takes. */
public final class FaceTest {
    private static final Due DUE = new Due();
    private static final String[] CALLS = {
        "at(int,int)", "between(int,int,int,int)", "copy(int,int)", "drawn(int,int,int,int,int)",
        "far(int,int,int,int)", "fault(int)", "follow(int,int)", "hand(int,int)", "holds(int,int)", "image(int)",
        "judge(int)", "land(int)", "lost(int,int,int)", "map(int)", "restore(int)", "say(int)", "sites(int)",
        "spades(int)", "told(int)", "tree(int,int,int)", "who(int,int,int)", "wipe()", "wished(int,int,int,int)",
        "years(int)"};
    private static final String[] FORBIDDEN = {
        "throw", "try", "catch", "synchronized", "assert", "volatile", "protected", "->", "::", "Exact(",
        "System.out", "new Object", "package "};

    public static void main(String[] args) throws IOException {
        face();
        inside();
        words();
        lengths();
        strangeNumbers();
        room();
        DUE.end();
    }

    private static void face() {
        Class<?> face = LastMap.class;
        DUE.holds("public and final", Modifier.isPublic(face.getModifiers()) && Modifier.isFinal(face.getModifiers()));
        Set<String> calls = new TreeSet<>();
        Set<String> hidden = new TreeSet<>();
        for (Method method : face.getDeclaredMethods()) {
            if (Modifier.isPublic(method.getModifiers())) {
                String all = method.toString();
                calls.add(all.substring(all.indexOf("LastMap.") + 8));
                DUE.holds(all + " answers an int", method.getReturnType() == int.class);
            } else {
                hidden.add(method.getName());
                DUE.holds(method + " is private", Modifier.isPrivate(method.getModifiers()));
            }
        }
        DUE.holds("the calls are those of the document, not " + calls, calls.equals(new TreeSet<>(Set.of(CALLS))));
        for (String call : CALLS) {
            DUE.holds(call + ": no private one of this name", !hidden.contains(call.substring(0, call.indexOf('('))));
        }
        Set<String> constants = new TreeSet<>();
        for (Field field : face.getDeclaredFields()) {
            if (Modifier.isPublic(field.getModifiers())) {
                constants.add(field.getName());
            } else {
                DUE.holds(field + " is private", Modifier.isPrivate(field.getModifiers()));
            }
        }
        DUE.holds("the constants", constants.equals(Set.of("UNKNOWN", "OUTSIDE", "STATE", "FULL", "NO", "NONE")));
        Constructor<?>[] makers = face.getDeclaredConstructors();
        DUE.holds("one constructor", makers.length == 1 && makers[0].getParameterCount() == 0);
    }

    /* LANGUAGE.md, rules 1, 2, 5 and 11: the classes inside, what is static, and how much there is of each. */
    private static void inside() {
        Class<?>[] classes = LastMap.class.getDeclaredClasses();
        DUE.holds("no more than twelve classes", classes.length < 12);
        bounds(LastMap.class);
        for (Class<?> inner : classes) {
            DUE.holds(inner + " is static", Modifier.isStatic(inner.getModifiers()));
            DUE.holds(inner + " is private", Modifier.isPrivate(inner.getModifiers()));
            DUE.holds(inner + " has no class inside", inner.getDeclaredClasses().length == 0);
            bounds(inner);
        }
    }

    private static void bounds(Class<?> one) {
        Set<Class<?>> constants = Set.of(int.class, long.class, boolean.class, char.class, String.class,
            int[].class, long[].class, char[].class, byte[].class);
        int fields = 0;
        for (Field field : one.getDeclaredFields()) {
            if (Modifier.isStatic(field.getModifiers())) {
                DUE.holds(field + " is final", Modifier.isFinal(field.getModifiers()));
                DUE.holds(field + " is a constant", constants.contains(field.getType()));
            } else {
                fields++;
            }
        }
        DUE.holds(one + " has no more than twenty fields", fields <= 20);
        for (Method method : one.getDeclaredMethods()) {
            DUE.holds(method + " takes no more than seven", method.getParameterCount() <= 7);
        }
    }

    /* A method begins with a line that ends in ") {" and ends with a line that is as deep. */
    private static void lengths() throws IOException {
        String[] lines = Files.readString(Path.of("src/main/java/LastMap.java")).split("\n");
        for (String depth : new String[] {"    ", "        "}) {
            int start = -1;
            for (int i = 0; i < lines.length; i++) {
                if (lines[i].startsWith(depth + "}") && start >= 0) {
                    DUE.holds("no more than sixty lines: " + lines[start], i - start < 60);
                    start = -1;
                } else if (lines[i].matches(depth + "[a-z].*\\) \\{")) {
                    start = i;
                }
            }
        }
    }

    private static void words() throws IOException {
        String text = Files.readString(Path.of("src/main/java/LastMap.java"));
        for (String word : FORBIDDEN) {
            DUE.holds("no '" + word + "' in the class", !text.contains(word));
        }
        String imports = text.replaceAll("(?m)^(?!import ).*\n?", "");
        DUE.holds("only Arrays is imported, not " + imports, imports.trim().equals("import java.util.Arrays;"));
        DUE.holds("signs up to 126 alone", text.matches("[\\n -~]*"));
    }

    /* No call may throw, whatever it is given. */
    private static void strangeNumbers() {
        int[] strange = {Integer.MIN_VALUE, -100, -7, -1, 0, 1, 5, 6, 15, 31, 32, 63, 64, 127, 1000, Integer.MAX_VALUE};
        for (int n = 2; n <= 6; n++) {
            LastMap x = Due.withSites(n);
            for (int map = 0; map < 6; map++) {
                Due.tell(x, map, "abcd-a".substring(0, n));
            }
            for (int a : strange) {
                for (int b : strange) {
                    one(x, a, b);
                    for (int c : strange) {
                        three(x, a, b, c);
                    }
                }
            }
        }
    }

    private static void one(LastMap x, int a, int b) {
        x.say(a);
        x.fault(a);
        x.judge(a);
        x.copy(a, b);
        x.at(a, b);
        x.hand(a, b);
        x.holds(a, b);
        x.spades(a);
        x.land(a);
        x.years(a);
        x.follow(a, b);
        x.image(a);
        x.restore(a);
        x.told(a);
        x.wipe();
        x.map(a);
    }

    private static void three(LastMap x, int a, int b, int c) {
        x.who(a, b, c);
        x.lost(a, b, c);
        x.tree(a, b, c);
        x.far(a, b, c, a);
        x.between(a, b, c, b);
        x.wished(a, b, c, a);
        x.drawn(a, b, c, a, b);
    }

    /* 512 calls, each with other maps or another hand: what is made stays far below the room of one run. */
    private static void room() {
        com.sun.management.ThreadMXBean threads = (com.sun.management.ThreadMXBean) ManagementFactory.getThreadMXBean();
        long me = Thread.currentThread().getId();
        LastMap x = new LastMap();
        long before = threads.getThreadAllocatedBytes(me);
        for (int map = 0; map < 6; map++) {
            Due.tell(x, map, "abcdab");
        }
        for (int i = 0; i < 100; i++) {
            x.say('c');
            x.say('0' + i % 6);
            x.say('a' + i % 4);
            x.copy(i % 6, (i + 1) % 6);
            x.wipe();
            x.hand(0, i % 16);
            x.lost(63, 0, -1);
            x.tree(63, 0, 1);
            x.far(0, 5, 0, 0);
            x.image(i % 2);
        }
        long taken = threads.getThreadAllocatedBytes(me) - before;
        DUE.holds("no more than 1,000,000 bytes are taken, not " + taken, taken <= 1_000_000);
    }
}
