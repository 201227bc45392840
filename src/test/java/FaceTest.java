import java.io.IOException;
import java.lang.reflect.Field;
import java.lang.reflect.Method;
import java.lang.reflect.Modifier;
import java.nio.file.Files;
import java.nio.file.Path;
import java.util.Set;
import java.util.TreeSet;
import java.util.regex.Matcher;
import java.util.regex.Pattern;

/** The public face of the document, and those rules of LANGUAGE.md that can be seen in the text. */
public final class FaceTest {
    private static final Due T = new Due();
    private static final String FACE = "int feed(long, int)|int feast()|int set(int, int)|int lawOf(int)|int guest(int, int)|"
        + "int of(int, int)|int does(int, int)|int mind(int, int)|int give(int, int)|int sink(int, int, int)|int courses(int)|"
        + "int seed(int)|int course()|int luck(int)|int state(int)|int deep(int, int)|int speaks(int)|int sinks(int)|int whole()|"
        + "int tale(int)|int pieceFor(int, int)|int kindFor(int, int)|int goneFor(int, int)|int depthFor(int)|"
        + "int strangersFor(int, int)|int fits(int, int, int)|long odds(int, int, int)|long hope(int, int)|int prove(int, int)|"
        + "int row(int, int)|int alterRow(int, int, int)|int judge(int)|int minds(int, int, int, int)|int sheet(int, int, int)|"
        + "int put(int, int, int)|int item(int, int, int)|int shelf(int, int, int)|int taken(int, int)|int act(int, int, int)|"
        + "int trace(int)|int many(int)|int keep()|int again()";

    public static void main(String[] args) throws IOException {
        constants();
        members();
        text();
        T.end();
    }

    private static void constants() {
        T.due("BAD", KinCutlery.BAD, -1);
        T.due("FULL", KinCutlery.FULL, -2);
        T.due("NONE", KinCutlery.NONE, -3);
    }

    private static void same(String what, Set<String> got, Set<String> want) {
        T.due(what + ": " + got, got.equals(want) ? 1 : 0, 1);
    }

    private static void members() {
        Class<?> c = KinCutlery.class;
        T.due("public final class", c.getModifiers() & (Modifier.PUBLIC | Modifier.FINAL), Modifier.PUBLIC | Modifier.FINAL);
        T.due("one constructor", c.getDeclaredConstructors().length, 1);
        T.due("a public one", c.getConstructors().length, 1);
        Set<String> visible = new TreeSet<>();
        Set<String> publicNames = new TreeSet<>();
        for (Method m : c.getDeclaredMethods()) {
            if (!Modifier.isPrivate(m.getModifiers())) {
                String args = java.util.Arrays.stream(m.getParameterTypes()).map(Class::getName).collect(java.util.stream.Collectors.joining(", "));
                visible.add(m.getReturnType() + " " + m.getName() + "(" + args + ")");
                publicNames.add(m.getName());
                T.due(m + " is public", m.getModifiers(), Modifier.PUBLIC);
            }
        }
        same("methods", visible, new TreeSet<>(Set.of(FACE.split("\\|"))));
        Set<String> constants = new TreeSet<>();
        for (Field f : c.getDeclaredFields()) {
            if (!Modifier.isPrivate(f.getModifiers())) {
                constants.add(f.getName());
            }
        }
        same("fields", constants, new TreeSet<>(Set.of("BAD", "FULL", "NONE")));
        T.due("some twelve classes", c.getDeclaredClasses().length <= 12 ? 1 : 0, 1);
        insides(c, publicNames);
        for (Class<?> inside : c.getDeclaredClasses()) {
            T.due(inside + " is static", inside.getModifiers() & Modifier.STATIC, Modifier.STATIC);
            T.due(inside + " is not public", inside.getModifiers() & (Modifier.PUBLIC | Modifier.PROTECTED), 0);
            insides(inside, publicNames);
        }
    }

    private static void insides(Class<?> c, Set<String> publicNames) {
        int fields = 0;
        for (Field f : c.getDeclaredFields()) {
            if (Modifier.isStatic(f.getModifiers())) {
                T.due(f + " is final", f.getModifiers() & Modifier.FINAL, Modifier.FINAL);
            } else {
                fields++;
            }
        }
        T.due(c + ": some twenty fields", fields <= 20 ? 1 : 0, 1);
        for (Method m : c.getDeclaredMethods()) {
            T.due(m + ": at most seven parameters", m.getParameterCount() <= 7 ? 1 : 0, 1);
            if (!Modifier.isPublic(m.getModifiers())) {
                T.due(m + " bears no public one's name", publicNames.contains(m.getName()) ? 1 : 0, 0);
            }
        }
    }

    private static void text() throws IOException {
        String text = Files.readString(Path.of("src/main/java/KinCutlery.java"));
        T.due("signs 1 to 127", text.chars().filter(c -> c < 1 || c > 127).count(), 0);
        String code = text.replaceAll("(?s)/\\*.*?\\*/", "").replaceAll("//[^\n]*", "");
        String[] never = {"throw", "throws", "try", "catch", "synchronized", "assert", "package", "hashCode", "toString", "native",
            "volatile", "transient", "Exact", "System\\.(?!arraycopy)\\w+", "Thread", "Random", "double", "float"};
        for (String word : never) {
            T.due(word, Pattern.compile("\\b" + word + "\\b").matcher(code).find() ? 1 : 0, 0);
        }
        T.due("no lambda", code.contains("->") ? 1 : 0, 0);
        T.due("no method reference", code.contains("::") ? 1 : 0, 0);
        Matcher imports = Pattern.compile("import ([^;]+);").matcher(code);
        while (imports.find()) {
            T.due(imports.group(), imports.group(1).equals("java.util.Arrays") ? 1 : 0, 1);
        }
        int longest = 0;
        int lines = 0;
        for (String line : code.split("\n")) {
            lines = line.matches("    (    )?\\S.*\\{") ? 0 : lines + 1;
            longest = line.matches("    (    )?\\}") ? Math.max(longest, lines) : longest;
        }
        T.due("methods of some sixty lines: " + longest, longest <= 60 ? 1 : 0, 1);
    }
}
