import java.io.IOException;
import java.lang.reflect.InvocationTargetException;
import java.lang.reflect.Method;
import java.lang.reflect.Modifier;
import java.nio.file.Files;
import java.nio.file.Path;
import java.util.Arrays;
import java.util.BitSet;
import java.util.Comparator;
import java.util.Map;
import java.util.TreeMap;

/**
 * The sentences of the document, each with a test of its own: a test names the place ("I" to "V" of the Terms, "use",
 * "constants", "1" to "48" of the promises) and quotes the words that it holds the program to. The words must stand
 * there, and all words that stand there must be quoted by some test, so that no sentence is left out.
 */
final class Said {
    private static final Path DOCUMENT = Path.of("../shared/DOC.md");
    private static final Map<String, String> WORDS = readDocument();
    private static final Map<String, BitSet> QUOTED = new TreeMap<>();
    private static String place = "";

    private Said() {
    }

    /** What follows tests these words of that place. */
    static void at(String section, String words) {
        place = section;
        Due.from(section + " \"" + words + "\"");
        String all = WORDS.get(section);
        if (all == null) {
            return;
        }
        int from = all.indexOf(words);
        Due.is("the document's words at that place", from >= 0, true);
        for (; from >= 0; from = all.indexOf(words, from + 1)) {
            QUOTED.computeIfAbsent(section, s -> new BitSet()).set(from, from + words.length());
        }
    }

    /** Runs all tests of a class (its static methods without parameters), then looks for words that none of them quotes. */
    static void runAll(Class<?> tests, String... places) {
        Method[] methods = tests.getDeclaredMethods();
        Arrays.sort(methods, Comparator.comparing(Method::getName));
        for (Method m : methods) {
            if (Modifier.isStatic(m.getModifiers()) && m.getParameterCount() == 0 && m.getReturnType() == void.class) {
                run(m);
            }
        }
        Due.from("all words are quoted");
        for (String section : places) {
            lookForMissing(section);
        }
        Due.close();
    }

    private static void run(Method test) {
        int asked = Due.asked();
        place = "";
        try {
            test.invoke(null);
        } catch (InvocationTargetException | IllegalAccessException e) {
            e.printStackTrace(System.out);
            Due.is(test.getName() + " threw", 1, 0);
        }
        Due.is(test.getName() + " names a place", place.isEmpty(), false);
        Due.is(test.getName() + " asks something", Due.asked() > asked + 2, true);
    }

    private static void lookForMissing(String section) {
        String all = WORDS.getOrDefault(section, "");
        BitSet quoted = QUOTED.getOrDefault(section, new BitSet());
        for (int from = quoted.nextClearBit(0); from < all.length();) {
            int next = quoted.nextSetBit(from);
            int to = next < 0 ? all.length() : next;
            String missing = all.substring(from, to);
            if (missing.chars().anyMatch(Character::isLetterOrDigit)) {
                Due.is("no test quotes " + section + " \"" + missing + "\"", 1, 0);
            }
            from = quoted.nextClearBit(to);
        }
    }

    private static Map<String, String> readDocument() {
        Map<String, String> found = new TreeMap<>();
        String all;
        try {
            all = Files.readString(DOCUMENT).replaceAll("(?m)^```.*$", "").replaceAll("\\s+", " ");
        } catch (IOException e) {
            System.out.println("no document at " + DOCUMENT + ": what is quoted is not looked up");
            return found;
        }
        found.put("use", between(all, "An object is used", "## The public face"));
        found.put("I", between(all, "HORSES 0 .. 7", "==== II."));
        found.put("II", between(all, "TEXTS 0 .. 3", "==== III."));
        found.put("III", between(all, "All that follows", "==== IV."));
        found.put("IV", between(all, "WATCHES 0 .. 5", "==== V."));
        found.put("V", between(all, "WINTERS by a SEED", "The constants:"));
        found.put("constants", between(all, "The constants:", "## Promise 1:"));
        for (int i = 1; i <= 48; i++) {
            String promise = between(all, "## Promise " + i + ":", i < 48 ? "## Promise " + (i + 1) + ":" : "## Not promised");
            found.put("" + i, promise.substring(promise.indexOf("`: ") + 3));
        }
        return found;
    }

    private static String between(String all, String first, String behind) {
        int from = all.indexOf(first);
        int to = all.indexOf(behind, Math.max(0, from));
        if (from < 0 || to < 0) {
            Due.is("the document has \"" + first + "\" ahead of \"" + behind + "\"", 1, 0);
            return "`: ";
        }
        return all.substring(from, to).strip();
    }
}
