import java.io.IOException;
import java.lang.reflect.Method;
import java.lang.reflect.Modifier;
import java.nio.file.Files;
import java.nio.file.Path;
import java.util.Set;
import java.util.TreeSet;
import java.util.regex.Matcher;
import java.util.regex.Pattern;

/** README.md: its examples are run line by line, and each answer that it tells must be the one that comes. */
public final class ReadmeTest {
    private static final Due DUE = new Due();
    private static final Pattern CALL = Pattern.compile("x\\.(\\w+)\\(([^)]*)\\);");
    private static final Pattern TOLD = Pattern.compile("// (-?\\d+)\\b");
    private final Set<String> called = new TreeSet<>();
    private LastMap x;

    public static void main(String[] args) throws IOException, ReflectiveOperationException {
        new ReadmeTest().play(Files.readString(Path.of("README.md")));
        DUE.end();
    }

    private void play(String text) throws ReflectiveOperationException {
        boolean example = false;
        for (String line : text.split("\n")) {
            if (line.startsWith("```")) {
                example = line.equals("```java");
            } else if (example) {
                playLine(line);
            }
        }
        for (Method method : LastMap.class.getDeclaredMethods()) {
            if (Modifier.isPublic(method.getModifiers())) {
                String name = method.getName();
                DUE.holds("the table tells of " + name, text.contains("`" + name + "("));
                DUE.holds("an example calls " + name, called.contains(name) || name.equals("wipe"));
            }
        }
    }

    /* The number that a line tells is the answer of its last call. */
    private void playLine(String line) throws ReflectiveOperationException {
        if (line.startsWith("LastMap x = new LastMap();")) {
            x = new LastMap();
            return;
        }
        Matcher calls = CALL.matcher(line);
        int answer = 0;
        boolean any = false;
        while (calls.find()) {
            answer = answerOf(calls.group(1), calls.group(2));
            any = true;
        }
        DUE.holds("there is a call in: " + line, any);
        Matcher told = TOLD.matcher(line);
        if (told.find()) {
            DUE.is(line, answer, Integer.parseInt(told.group(1)));
        }
    }

    private int answerOf(String name, String list) throws ReflectiveOperationException {
        called.add(name);
        String[] texts = list.isEmpty() ? new String[0] : list.split(", ");
        Class<?>[] types = new Class<?>[texts.length];
        Object[] numbers = new Object[texts.length];
        for (int i = 0; i < texts.length; i++) {
            types[i] = int.class;
            numbers[i] = texts[i].startsWith("'") ? (int) texts[i].charAt(1) : Integer.parseInt(texts[i]);
        }
        return (int) LastMap.class.getMethod(name, types).invoke(x, numbers);
    }
}
