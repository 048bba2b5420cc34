import java.io.IOException;
import java.lang.reflect.InvocationTargetException;
import java.lang.reflect.Method;
import java.nio.file.Files;
import java.nio.file.Path;
import java.util.Arrays;
import java.util.Comparator;
import java.util.LinkedHashMap;
import java.util.Map;

/**
 * The document from its first line to its last, a class for each section and a test for each case.
 * A test's class names its section, and {@link Says} the sentence; both are told when it fails. No
 * sentence of these sections may be left without a test.
 */
public final class DocumentTest {
    private static final Path DOCUMENT = Path.of("../shared/DOC.md");

    private static final Class<?>[] PROMISES = {
        Promise01NewObject.class, Promise02Exchange.class, Promise03Order.class, Promise04Unit.class,
        Promise05Read.class, Promise06Length.class, Promise07Row.class, Promise08Image.class,
        Promise09Act.class, Promise10Swap.class, Promise11At.class, Promise12Stage.class,
        Promise13Goal.class, Promise14Use.class, Promise15Run.class, Promise16Did.class,
        Promise17States.class, Promise18Fails.class, Promise19SetUp.class, Promise20Text.class,
    };

    /** A section's words, and which of its characters stand in the words of some test. */
    private static final class Section {
        final String words;
        final boolean[] held;

        Section(String words) {
            this.words = words;
            held = new boolean[words.length()];
        }

        boolean hold(String said) {
            int from = words.indexOf(said);
            if (from >= 0) {
                Arrays.fill(held, from, from + said.length(), true);
            }
            return from >= 0;
        }

        /** What no test holds; stops and the like between sentences need none. */
        String left() {
            StringBuilder all = new StringBuilder();
            for (int i = 0; i < held.length; i++) {
                all.append(held[i] ? ' ' : words.charAt(i));
            }
            return all.toString().replaceAll("[ .,:;()]+", " ").trim();
        }
    }

    private final String document;
    private final Map<String, Section> sections = new LinkedHashMap<>();
    private int tests = 0;

    private DocumentTest(String document) {
        this.document = document.replaceAll("\\s+", " ");
    }

    public static void main(String[] args) throws IOException, IllegalAccessException {
        new DocumentTest(Files.readString(DOCUMENT)).go();
    }

    private void go() throws IllegalAccessException {
        holdAll(WhatItIs.class, "What it is");
        holdAll(Terms.class, "Terms");
        for (int i = 0; i < PROMISES.length; i++) {
            holdAll(PROMISES[i], "Promise " + (i + 1) + ":");
        }
        Check.due("a promise more", document.contains("## Promise " + (PROMISES.length + 1)), false);
        for (Map.Entry<String, Section> each : sections.entrySet()) {
            Check.due("words of \"" + each.getKey() + "\" without a test", each.getValue().left(), "");
        }
        System.out.println(tests + " cases of the document");
        Check.end();
    }

    private void holdAll(Class<?> cases, String title) throws IllegalAccessException {
        Section section = new Section(wordsOf(title));
        sections.put(title, section);
        Method[] methods = cases.getDeclaredMethods();
        Arrays.sort(methods, Comparator.comparing(Method::getName));
        for (Method method : methods) {
            if (method.isAnnotationPresent(Says.class)) {
                hold(cases, method, section);
                tests++;
            }
        }
    }

    private void hold(Class<?> cases, Method test, Section section) throws IllegalAccessException {
        String said = test.getAnnotation(Says.class).value();
        Check.begin(cases.getSimpleName() + "." + test.getName() + " (\"" + said + "\"): ");
        boolean known = section.hold(said) || sections.get("Terms").hold(said);
        Check.due("the document says so", known, true);
        int before = Check.count();
        try {
            test.invoke(null);
        } catch (InvocationTargetException e) {
            Check.due("the test's end", e.getCause().toString(), "no exception");
        }
        Check.due("something was looked at", Check.count() > before, true);
        Check.begin("");
    }

    /** What stands below a title, without the call's head in ` `, which FaceTest holds. */
    private String wordsOf(String title) {
        int from = document.indexOf("## " + title);
        Check.due(title + " is in the document", from >= 0, true);
        int to = document.indexOf(" ## ", from + 1);
        String below = document.substring(Math.max(from, 0), to < 0 ? document.length() : to);
        if (!title.startsWith("Promise")) {
            return below.substring(Math.min(below.length(), 3 + title.length()));
        }
        int head = below.lastIndexOf('`');
        Check.due(title + " has a head", head >= 0, true);
        return below.substring(head + 1);
    }
}
