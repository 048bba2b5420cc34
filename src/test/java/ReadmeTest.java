import java.io.IOException;
import java.lang.reflect.InvocationTargetException;
import java.net.URL;
import java.net.URLClassLoader;
import java.nio.file.Files;
import java.nio.file.Path;
import java.util.ArrayList;
import java.util.List;
import java.util.Set;
import java.util.TreeSet;
import java.util.regex.Matcher;
import java.util.regex.Pattern;
import java.util.stream.Stream;
import javax.tools.JavaCompiler;
import javax.tools.ToolProvider;

/** What README.md shows of the use of the class compiles, and answers as "// ->" says behind it. */
public final class ReadmeTest {
    private static final Path README = Path.of("README.md");
    private static final Path TESTS = Path.of("src/test/java");
    private static final Pattern TOLD = Pattern.compile("(.*;)\\s*// -> (\\S+?)(:\\s.*)?");
    private static final Pattern MADE = Pattern.compile("int (\\w+) = .*;");
    private static final String THROWN = "ArrayIndexOutOfBoundsException";

    public static void main(String[] args) throws IOException, ReflectiveOperationException {
        String readme = Files.readString(README);
        List<String> code = codeOf(readme);
        Path folder = Files.createTempDirectory("readme");
        try {
            if (compiles(folder, code)) {
                answersAsTold(folder, code);
            }
        } finally {
            remove(folder);
        }
        namesTheTests(readme);
        callsAreShown(code);
        Check.end();
    }

    /** The lines of all blocks of Java, which follow one another. */
    private static List<String> codeOf(String readme) {
        List<String> code = new ArrayList<>();
        boolean within = false;
        for (String line : readme.split("\n")) {
            if (line.startsWith("```")) {
                within = line.equals("```java");
            } else if (within) {
                code.add(line);
            }
        }
        return code;
    }

    private static boolean compiles(Path folder, List<String> code) throws IOException {
        StringBuilder text = new StringBuilder("public final class Shown {\n");
        text.append("static void asItStands() {\n").append(String.join("\n", code)).append("\n}\n");
        text.append("public static void tell(java.util.List<String> told) {\n");
        for (String line : code) {
            text.append(telling(line)).append('\n');
        }
        Path file = folder.resolve("Shown.java");
        Files.writeString(file, text.append("}\n}\n").toString());
        JavaCompiler compiler = ToolProvider.getSystemJavaCompiler();
        Check.due("there is a compiler", compiler != null, true);
        String path = System.getProperty("java.class.path");
        int end = compiler == null ? 1 : compiler.run(null, null, null, "--release", "17", "-Xlint:all",
            "-Werror", "-cp", path, "-d", folder.toString(), file.toString());
        Check.due("README.md's code compiles (0)", end, 0);
        return end == 0;
    }

    /** A line of code that also adds its answer to what is told. */
    private static String telling(String line) {
        Matcher told = TOLD.matcher(line);
        if (!told.matches()) {
            return line;
        }
        String call = told.group(1);
        Matcher made = MADE.matcher(call);
        if (told.group(2).equals(THROWN)) {
            return "try { " + call + " told.add(\"nothing\"); } catch (RuntimeException e) "
                + "{ told.add(e.getClass().getSimpleName()); }";
        }
        if (made.matches()) {
            return call + " told.add(String.valueOf(" + made.group(1) + "));";
        }
        return "told.add(String.valueOf(" + call.substring(0, call.length() - 1) + "));";
    }

    private static void answersAsTold(Path folder, List<String> code)
        throws IOException, ReflectiveOperationException {
        List<String> told = new ArrayList<>();
        try (URLClassLoader loader = new URLClassLoader(new URL[] {folder.toUri().toURL()})) {
            loader.loadClass("Shown").getMethod("tell", List.class).invoke(null, told);
        } catch (InvocationTargetException e) {
            Check.due("README.md's code", e.getCause().toString(), "no exception");
        }
        int next = 0;
        for (String line : code) {
            Matcher due = TOLD.matcher(line);
            if (due.matches()) {
                Check.due(due.group(1), next < told.size() ? told.get(next) : "nothing", due.group(2));
                next++;
            }
        }
        Check.due("answers told in README.md", next > 0 && told.size() == next, true);
    }

    private static void remove(Path folder) throws IOException {
        try (Stream<Path> files = Files.list(folder)) {
            for (Path file : files.toList()) {
                Files.delete(file);
            }
        }
        Files.delete(folder);
    }

    private static void namesTheTests(String readme) throws IOException {
        Set<String> named = new TreeSet<>();
        Matcher each = Pattern.compile("^- `(\\w+Test)`", Pattern.MULTILINE).matcher(readme);
        while (each.find()) {
            named.add(each.group(1));
        }
        Set<String> there = new TreeSet<>();
        try (Stream<Path> files = Files.list(TESTS)) {
            files.map(file -> file.getFileName().toString()).filter(name -> name.endsWith("Test.java"))
                .forEach(name -> there.add(name.substring(0, name.length() - ".java".length())));
        }
        Check.due("tests that README.md names", named.toString(), there.toString());
    }

    private static void callsAreShown(List<String> code) {
        String all = String.join("\n", code);
        for (java.lang.reflect.Method method : StageRows.class.getMethods()) {
            if (method.getDeclaringClass() == StageRows.class) {
                boolean shown = all.matches("(?s).*\\bx(\\.|::)" + method.getName() + "\\b.*");
                Check.due(method.getName() + "() is shown", shown, true);
            }
        }
    }
}
