import java.io.IOException;
import java.lang.reflect.Method;
import java.nio.file.Files;
import java.nio.file.Path;
import java.util.Arrays;
import java.util.regex.Matcher;
import java.util.regex.Pattern;

/** README.md's calls answer what it says of them, and it names every call of the face. */
public final class ReadmeTest {
    private static final Pattern EXAMPLE = Pattern.compile("(?s)```java\n(.*?)```");
    private static final Pattern CALL = Pattern.compile("g\\.(\\w+)\\(([^)]*)\\);\\s*// (-?\\d+|true|false)(?![\\w.]).*");

    public static void main(String[] args) throws IOException, ReflectiveOperationException {
        String readme = Files.readString(Path.of("README.md"));
        Matcher example = EXAMPLE.matcher(readme);
        int examples = 0;
        while (example.find()) {
            play(example.group(1));
            examples++;
        }
        Due.is("README.md has examples", examples > 0, true);
        for (Method m : RockingGuard.class.getDeclaredMethods()) {
            boolean named = (m.getModifiers() & java.lang.reflect.Modifier.PUBLIC) == 0 || readme.contains("`" + m.getName() + "`");
            Due.is("README.md names " + m.getName(), named, true);
        }
        Due.close();
    }

    private static void play(String example) throws ReflectiveOperationException {
        RockingGuard g = new RockingGuard();
        for (String line : example.split("\n")) {
            Matcher call = CALL.matcher(line);
            if (call.matches()) {
                Due.is("README.md: " + line, answer(g, call.group(1), call.group(2)).equals(call.group(3)), true);
            } else {
                Due.is("README.md: a call with its answer: " + line, line.startsWith("RockingGuard g = new"), true);
            }
        }
    }

    private static String answer(RockingGuard g, String name, String told) throws ReflectiveOperationException {
        Object[] numbers = told.isEmpty() ? new Object[0] : Arrays.stream(told.split(", *")).map(Integer::decode).toArray();
        Class<?>[] types = new Class<?>[numbers.length];
        Arrays.fill(types, int.class);
        return String.valueOf(RockingGuard.class.getMethod(name, types).invoke(g, numbers));
    }
}
