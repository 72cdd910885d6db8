import java.io.IOException;
import java.lang.reflect.Constructor;
import java.lang.reflect.Field;
import java.lang.reflect.Method;
import java.lang.reflect.Modifier;
import java.nio.file.Files;
import java.nio.file.Path;
import java.util.Arrays;
import java.util.List;
import java.util.Set;
import java.util.TreeSet;
import java.util.regex.Matcher;
import java.util.regex.Pattern;
import java.util.stream.Collectors;

/** The face of the class is the document's and no more, and its source keeps to what LANGUAGE.md leaves. */
public final class FaceTest {
    private static final String FACE = "int horse(int,int);int boy(int);boolean limit(int);int feed(int,int,int,int,int);int end(int);int text();"
            + "int fault(int);boolean by(int);boolean mount(int,int);int off(int);int oil(int);boolean nail(int,int);int minute(int);int played(int);"
            + "int winters(int,int);int undo();int ofHorse(int,int);int ofBoy(int,int);int is(int);int book(int,int);int rocking(int);int together(int);"
            + "int foretold(int,int,int);int firstSlide();int unmanned();int safe(int,int);int heard(int,int);int rode(int);int listen(int);"
            + "int watch(int,int,int);int manned(int);long below(int,int,int,boolean);long gale(int,int,int,boolean);int ropes(int);int haul(int);"
            + "int oilings(int,boolean);int show(int);int counted(int,int);int whose();int slid(int);int inStep();int tiredest();int veterans(int);"
            + "int lonely();int image();int back();int about(int)";

    public static void main(String[] args) throws IOException {
        Class<?> c = RockingGuard.class;
        Due.is("the constant", RockingGuard.NONE, -1);
        Due.is("public and final", c.getModifiers(), Modifier.PUBLIC | Modifier.FINAL);
        face(c);
        for (Class<?> inner : c.getDeclaredClasses()) innerClass(inner);
        Due.is("twelve classes at most", c.getDeclaredClasses().length < 12, true);
        source(Files.readString(Path.of("src/main/java/RockingGuard.java")));
        Due.close();
    }

    private static void face(Class<?> c) {
        Set<String> seen = new TreeSet<>();
        for (Method m : c.getDeclaredMethods()) {
            if (Modifier.isPrivate(m.getModifiers())) {
                Due.is("no private " + m.getName() + " beside the public one", FACE.contains(" " + m.getName() + "("), false);
            } else {
                Due.is(m.getName() + " is public and of the object", m.getModifiers(), Modifier.PUBLIC);
                seen.add(m.getReturnType() + " " + m.getName() + "("
                        + Arrays.stream(m.getParameterTypes()).map(Class::getName).collect(Collectors.joining(",")) + ")");
            }
        }
        Due.is("the document's methods alone", seen.equals(new TreeSet<>(List.of(FACE.split(";")))), true);
        for (Constructor<?> made : c.getDeclaredConstructors()) {
            Due.is("the public constructor", made.getModifiers(), Modifier.PUBLIC);
            Due.is("without parameters", made.getParameterCount(), 0);
        }
        for (Field f : c.getDeclaredFields()) {
            boolean none = f.getName().equals("NONE");
            Due.is(f.getName() + " is private", Modifier.isPrivate(f.getModifiers()), !none);
            Due.is(f.getName() + " is final", Modifier.isFinal(f.getModifiers()), true);
        }
    }

    private static void innerClass(Class<?> inner) {
        Due.is(inner + " is static", Modifier.isStatic(inner.getModifiers()), true);
        Due.is(inner + " is private", Modifier.isPrivate(inner.getModifiers()), true);
        long fields = Arrays.stream(inner.getDeclaredFields()).filter(f -> !Modifier.isStatic(f.getModifiers())).count();
        Due.is(inner + " has twenty fields at most", fields <= 20, true);
        for (Field f : inner.getDeclaredFields()) {
            if (Modifier.isStatic(f.getModifiers())) Due.is(f + " is final", Modifier.isFinal(f.getModifiers()), true);
        }
        for (Method m : inner.getDeclaredMethods()) {
            Due.is(m + " has seven parameters at most", m.getParameterCount() <= 7, true);
            Due.is(m + " does not bear a public one's name", FACE.contains(" " + m.getName() + "("), false);
        }
    }

    private static void source(String all) {
        String code = all.replaceAll("(?s)/\\*.*?\\*/", "").replaceAll("//[^\n]*", "").replaceAll("\"[^\"\n]*\"", "\"\"");
        String[] no = {"throw", "try", "catch", "synchronized", "assert", "->", "::", "double", "float", "Exact\\(", "package", "hashCode",
            "toString", "System\\.(?!arraycopy)", "Math\\.(?!max|min|abs)", "Integer\\.(?!bitCount)", "Arrays\\.(?!fill)", "static \\{", "protected"};
        for (String word : no) Due.is("no " + word, Pattern.compile("(?<![A-Za-z])" + word).matcher(code).find(), false);
        Due.is("one import", code.split("\nimport |^import ").length - 1, 1);
        Due.is("signs of 1 to 127 alone", all.chars().allMatch(c -> c > 0 && c < 128), true);
        Matcher method = Pattern.compile("(?ms)^( {4}| {8})(?:public|private|static|final|int|long|boolean|void|Script|[A-Z]\\w+\\()[^\n;=]*\\{\n(.*?)^\\1\\}").matcher(code);
        int methods = 0;
        while (method.find()) {
            if (method.group().contains(" class ")) {
                method.region(method.start() + method.group().indexOf('\n'), code.length());
                continue;
            }
            methods++;
            long lines = method.group().lines().count();
            Due.is("sixty lines at most: " + method.group().strip().lines().findFirst().get(), lines <= 60, true);
        }
        Due.is("all methods were looked at", methods > 120, true);
    }
}
