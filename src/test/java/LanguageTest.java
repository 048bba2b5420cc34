import java.io.IOException;
import java.nio.file.Files;
import java.nio.file.Path;
import java.util.regex.Matcher;
import java.util.regex.Pattern;

/** The rules of LANGUAGE.md that can be seen in the text of the class. */
public final class LanguageTest {
    private static final Path SOURCE = Path.of("src/main/java/StageRows.java");
    private static final int MOST_LINES = 60;

    private static final String[] NEVER = {
        "->", "::", "\\btry\\b", "\\bcatch\\b", "\\bfinally\\b", "\\bsynchronized\\b", "\\bassert\\b",
        "\\bpackage\\b", "\\bstatic\\s*\\{", "\\bprotected\\b", "\\bObject\\b", "\\bSystem\\.(?!arraycopy)",
        "Exact\\(", "\\bhashCode\\b", "\\btoString\\b", "\\bwhile\\s*\\(true\\)", "\\bfor\\s*\\(;;\\)",
    };

    public static void main(String[] args) throws IOException {
        String code = withoutComments(Files.readString(SOURCE));
        for (String never : NEVER) {
            Check.due(never + " in the class", Pattern.compile(never).matcher(code).find(), false);
        }
        imports(code);
        exceptions(code);
        methodsAreShort(code);
        Check.end();
    }

    private static String withoutComments(String code) {
        return code.replaceAll("(?s)/\\*.*?\\*/", "").replaceAll("//[^\n]*", "");
    }

    private static void imports(String code) {
        Matcher each = Pattern.compile("import ([^;]+);").matcher(code);
        while (each.find()) {
            Check.due("import", each.group(1), "java.util.Arrays");
        }
        Matcher call = Pattern.compile("\\bArrays\\.(\\w+)").matcher(code);
        while (call.find()) {
            Check.due("Arrays." + call.group(1), call.group(1).matches("fill|copyOf|copyOfRange"), true);
        }
    }

    /** The document names one exception; it is thrown with a written text. */
    private static void exceptions(String code) {
        Matcher each = Pattern.compile("\\bthrow\\b([^;]*);").matcher(code);
        while (each.find()) {
            String thrown = each.group(1).trim();
            boolean right = thrown.matches("new ArrayIndexOutOfBoundsException\\(\"[^\"]*\"\\)");
            Check.due("throw " + thrown, right, true);
        }
    }

    private static void methodsAreShort(String code) {
        String[] lines = code.split("\n");
        int begin = -1;
        for (int i = 0; i < lines.length; i++) {
            if (lines[i].matches(" {4,8}[\\w\\[\\] ]+\\(.*\\{")) {
                begin = i;
            } else if (begin >= 0 && lines[i].matches(" {4,8}}")) {
                Check.due("lines of" + lines[begin], i - begin <= MOST_LINES, true);
            }
        }
    }
}
