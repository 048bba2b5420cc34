import java.io.IOException;
import java.lang.reflect.Executable;
import java.lang.reflect.Field;
import java.lang.reflect.Modifier;
import java.nio.file.Files;
import java.nio.file.Path;
import java.util.ArrayList;
import java.util.List;
import java.util.Set;
import java.util.regex.Matcher;
import java.util.regex.Pattern;

/** The rules of LANGUAGE.md that can be seen in the text of the class, or in what it is made of. */
public final class LanguageTest {
    private static final Path SOURCE = Path.of("src/main/java/StageRows.java");
    private static final int MOST_LINES = 60;
    private static final int MOST_CLASSES = 12;
    private static final int MOST_FIELDS = 20;
    private static final int MOST_PARAMETERS = 7;

    /** What the class uses of the library; rule 4 has more, which would be added here. */
    private static final Set<String> LIBRARY = Set.of(
        "Arrays.fill", "System.arraycopy", "Math.max", "Math.min", "Integer.bitCount");

    private static final String[] NEVER = {
        "->", "::", "\\btry\\b", "\\bcatch\\b", "\\bfinally\\b", "\\bsynchronized\\b", "\\bassert\\b",
        "\\bpackage\\b", "\\bstatic\\s*\\{", "\\bprotected\\b", "\\bObject\\b", "\\bSystem\\.(?!arraycopy)",
        "Exact\\(", "\\bhashCode\\b", "\\btoString\\b", "\\bwhile\\s*\\(true\\)", "\\bfor\\s*\\(;;\\)",
    };

    public static void main(String[] args) throws IOException {
        String code = withoutComments(Files.readString(SOURCE));
        for (String never : NEVER) {
            Check.due(never + " in the class", Pattern.compile(never).matcher(code).find(), false);
        }
        library(code);
        exceptions(code);
        methodsAreShort(code);
        sizes();
        Check.end();
    }

    private static String withoutComments(String code) {
        return code.replaceAll("(?s)/\\*.*?\\*/", "").replaceAll("//[^\n]*", "");
    }

    private static void library(String code) {
        Matcher each = Pattern.compile("import ([^;]+);").matcher(code);
        while (each.find()) {
            Check.due("import", each.group(1), "java.util.Arrays");
        }
        List<String> own = new ArrayList<>();
        for (Class<?> inside : StageRows.class.getDeclaredClasses()) {
            own.add(inside.getSimpleName());
        }
        Matcher call = Pattern.compile("\\b([A-Z][a-z]\\w*)\\.(\\w+)").matcher(code);
        while (call.find()) {
            boolean known = own.contains(call.group(1)) || LIBRARY.contains(call.group());
            Check.due(call.group() + " may be used", known, true);
        }
    }

    /** The document names one exception; it is thrown with a written text. */
    private static void exceptions(String code) {
        Matcher each = Pattern.compile("\\bthrow\\b([^;]*);").matcher(code);
        while (each.find()) {
            String thrown = each.group(1).trim();
            boolean right = thrown.matches("new ArrayIndexOutOfBoundsException\\(\"[^\"]*\"\\)");
            Check.due("throw " + thrown, right, true);
        }
    }

    private static void methodsAreShort(String code) {
        String[] lines = code.split("\n");
        int begin = -1;
        for (int i = 0; i < lines.length; i++) {
            if (lines[i].matches(" {4,8}[\\w\\[\\] ]+\\(.*\\{")) {
                begin = i;
            } else if (begin >= 0 && lines[i].matches(" {4,8}}")) {
                Check.due("lines of" + lines[begin], i - begin <= MOST_LINES, true);
            }
        }
    }

    private static void sizes() {
        List<Class<?>> classes = new ArrayList<>(List.of(StageRows.class.getDeclaredClasses()));
        classes.add(StageRows.class);
        Check.due("classes", classes.size() <= MOST_CLASSES, true);
        for (Class<?> each : classes) {
            int fields = 0;
            for (Field field : each.getDeclaredFields()) {
                fields += Modifier.isStatic(field.getModifiers()) ? 0 : 1;
            }
            Check.due("fields of " + each, fields <= MOST_FIELDS, true);
            List<Executable> all = new ArrayList<>(List.of(each.getDeclaredMethods()));
            all.addAll(List.of(each.getDeclaredConstructors()));
            for (Executable method : all) {
                Check.due("parameters of " + method, method.getParameterCount() <= MOST_PARAMETERS, true);
            }
        }
    }
}
