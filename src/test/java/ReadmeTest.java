import java.io.IOException;
import java.lang.reflect.Method;
import java.lang.reflect.Modifier;
import java.net.URL;
import java.net.URLClassLoader;
import java.nio.file.Files;
import java.nio.file.Path;
import java.util.ArrayList;
import java.util.Comparator;
import java.util.List;
import java.util.regex.Matcher;
import java.util.regex.Pattern;
import java.util.stream.Collectors;
import java.util.stream.Stream;

/** README.md: its examples, compiled with each answer caught in an array, answer what it says; no call of the face is left out. */
public final class ReadmeTest {
    private static final Due T = new Due();
    private static final Pattern BLOCK = Pattern.compile("(?ms)^```java\n(.*?)^```$");
    private static final Pattern MADE = Pattern.compile("KinCutlery \\w+ = new KinCutlery\\(\\);");
    private static final Pattern CALL = Pattern.compile("(?:(int|long) (\\w+) = )?([^=]+\\)); *// (-?\\d+)(?::? .*)?");

    private final StringBuilder members = new StringBuilder();
    private final StringBuilder body = new StringBuilder();
    private final List<String> calls = new ArrayList<>();
    private final List<Long> want = new ArrayList<>();

    public static void main(String[] args) throws IOException, InterruptedException, ReflectiveOperationException {
        String readme = Files.readString(Path.of("README.md"));
        ReadmeTest examples = new ReadmeTest();
        Matcher block = BLOCK.matcher(readme);
        while (block.find()) {
            examples.take(block.group(1));
        }
        examples.compare();
        everyCallIsNamed(readme);
        T.end();
    }

    /** A block of methods, or of lines each of which makes an object or is a call with its answer. */
    private void take(String block) {
        if (block.startsWith("static ")) {
            members.append(block);
            return;
        }
        for (String line : block.split("\n")) {
            Matcher call = CALL.matcher(line);
            if (MADE.matcher(line).matches()) {
                body.append(line).append('\n');
            } else if (call.matches()) {
                takeCall(call);
            } else {
                T.due("a line without an answer: " + line, 0, 1);
            }
        }
    }

    private void takeCall(Matcher call) {
        String got = "got[" + calls.size() + "] = ";
        if (call.group(1) == null) {
            body.append(got).append(call.group(3)).append(";\n");
        } else {
            body.append(call.group(1)).append(' ').append(call.group(2)).append(" = ").append(call.group(3)).append(";\n");
            body.append(got).append(call.group(2)).append(";\n");
        }
        calls.add(call.group(3));
        want.add(Long.valueOf(call.group(4)));
    }

    private void compare() throws IOException, InterruptedException, ReflectiveOperationException {
        Path dir = Files.createTempDirectory("readme");
        try {
            long[] got = answers(dir);
            for (int i = 0; i < calls.size(); i++) {
                T.due(calls.get(i), got[i], want.get(i));
            }
        } finally {
            try (Stream<Path> files = Files.walk(dir)) {
                for (Path file : files.sorted(Comparator.reverseOrder()).collect(Collectors.toList())) {
                    Files.delete(file);
                }
            }
        }
    }

    private long[] answers(Path dir) throws IOException, InterruptedException, ReflectiveOperationException {
        Path source = dir.resolve("Examples.java");
        Files.writeString(source, "public final class Examples {\n" + members
            + "public static long[] answers() {\nlong[] got = new long[" + calls.size() + "];\n" + body + "return got;\n}\n}\n");
        // The javac that .ci/run uses, whatever java runs this.
        int refused = new ProcessBuilder("javac", "-cp", System.getProperty("java.class.path"),
            "-d", dir.toString(), source.toString()).inheritIO().start().waitFor();
        T.due("the examples compile", refused, 0);
        if (refused != 0) {
            return new long[calls.size()];
        }
        try (URLClassLoader loader = new URLClassLoader(new URL[] {dir.toUri().toURL()})) {
            return (long[]) loader.loadClass("Examples").getMethod("answers").invoke(null);
        }
    }

    private static void everyCallIsNamed(String readme) {
        for (Method m : KinCutlery.class.getDeclaredMethods()) {
            if (Modifier.isPublic(m.getModifiers())) {
                T.due("README.md names " + m.getName(), readme.contains("`" + m.getName() + "(") ? 1 : 0, 1);
            }
        }
    }
}
