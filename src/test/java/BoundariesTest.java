import java.io.IOException;
import java.lang.reflect.InvocationTargetException;
import java.lang.reflect.Method;
import java.nio.file.Files;
import java.nio.file.Path;
import java.util.Arrays;
import java.util.Comparator;

/**
 * The boundary cases of each promise, a class for each promise and a test for each case. A test's
 * class names its promise, and {@link Says} the sentence; both are told when it fails.
 */
public final class BoundariesTest {
    private static final Path DOCUMENT = Path.of("../shared/DOC.md");

    private static final Class<?>[] PROMISES = {
        Promise01NewObject.class, Promise02Exchange.class, Promise03Order.class, Promise04Unit.class,
        Promise05Read.class, Promise06Length.class, Promise07Row.class, Promise08Image.class,
        Promise09Act.class, Promise10Swap.class, Promise11At.class, Promise12Stage.class,
        Promise13Goal.class, Promise14Use.class, Promise15Run.class, Promise16Did.class,
        Promise17States.class, Promise18Fails.class, Promise19SetUp.class, Promise20Text.class,
    };

    public static void main(String[] args) throws IOException, IllegalAccessException {
        String document = Files.exists(DOCUMENT) ? oneLine(Files.readString(DOCUMENT)) : "";
        int tests = 0;
        for (int i = 0; i < PROMISES.length; i++) {
            String said = document.isEmpty() ? "" : wordsOf(document, i + 1);
            Method[] methods = PROMISES[i].getDeclaredMethods();
            Arrays.sort(methods, Comparator.comparing(Method::getName));
            for (Method method : methods) {
                if (method.isAnnotationPresent(Says.class)) {
                    hold(PROMISES[i], method, said);
                    tests++;
                }
            }
        }
        System.out.println(tests + " boundary cases");
        Check.end();
    }

    private static void hold(Class<?> promise, Method test, String said) throws IllegalAccessException {
        String words = test.getAnnotation(Says.class).value();
        Check.begin(promise.getSimpleName() + "." + test.getName() + " (\"" + words + "\"): ");
        if (!said.isEmpty()) {
            Check.due("the document says so", said.contains(words), true);
        }
        int before = Check.count();
        try {
            test.invoke(null);
        } catch (InvocationTargetException e) {
            Check.due("the test's end", e.getCause().toString(), "no exception");
        }
        Check.due("something was looked at", Check.count() > before, true);
        Check.begin("");
    }

    private static String oneLine(String text) {
        return text.replaceAll("\\s+", " ");
    }

    /** The document's section of a promise, and its terms. */
    private static String wordsOf(String document, int promise) {
        return section(document, "## Promise " + promise + ":") + section(document, "## Terms");
    }

    private static String section(String document, String title) {
        int from = document.indexOf(title);
        Check.due(title + " is in the document", from >= 0, true);
        int to = document.indexOf(" ## ", from + 1);
        return from < 0 ? "" : document.substring(from, to < 0 ? document.length() : to);
    }
}
