import java.io.IOException;
import java.lang.reflect.Constructor;
import java.lang.reflect.Field;
import java.lang.reflect.Method;
import java.lang.reflect.Modifier;
import java.nio.file.Files;
import java.nio.file.Path;
import java.util.ArrayList;
import java.util.HashSet;
import java.util.List;
import java.util.Set;
import java.util.TreeSet;
import java.util.regex.Matcher;
import java.util.regex.Pattern;

/** The class has the public face of the document, and nothing else that others can see. */
public final class FaceTest {
    private static final Path DOCUMENT = Path.of("../shared/DOC.md");
    private static final Path SOURCE = Path.of("src/main/java/StageRows.java");
    private static final Class<?> FACE = StageRows.class;

    public static void main(String[] args) throws IOException {
        List<String> heads = headsOf(Files.readString(DOCUMENT));
        Check.due("heads in the document", heads.size(), 20);
        writtenAsInTheDocument(heads);
        seenAsInTheDocument(heads);
        nothingElseIsSeen();
        Check.end();
    }

    /** The heads of the constructor and the methods; each promise tells its own once more. */
    private static List<String> headsOf(String document) {
        List<String> heads = new ArrayList<>();
        Matcher each = Pattern.compile("^    (public [^;]*);$", Pattern.MULTILINE).matcher(document);
        while (each.find()) {
            heads.add(each.group(1));
        }
        List<String> ofPromises = new ArrayList<>();
        Matcher promise = Pattern.compile("^`([^`]*)`:", Pattern.MULTILINE).matcher(document);
        while (promise.find()) {
            ofPromises.add("public " + promise.group(1));
        }
        Check.due("heads of the promises", ofPromises.toString(), heads.toString());
        return heads;
    }

    private static void writtenAsInTheDocument(List<String> heads) throws IOException {
        String source = Files.readString(SOURCE);
        Check.due("the class's head", source.contains("\npublic final class StageRows {\n"), true);
        for (String head : heads) {
            Check.due(head, source.contains("\n    " + head + " {\n"), true);
        }
    }

    private static void seenAsInTheDocument(List<String> heads) {
        Set<String> due = new TreeSet<>();
        for (String head : heads) {
            String types = head.replaceAll("(int|boolean) \\w+([,)])", "$1$2").replace(", ", ",");
            due.add(types.replace("throws ", "throws java.lang."));
        }
        Set<String> seen = new TreeSet<>();
        for (Method method : FACE.getDeclaredMethods()) {
            if (!Modifier.isPrivate(method.getModifiers())) {
                seen.add(method.toString().replace("StageRows.", ""));
            }
        }
        for (Constructor<?> constructor : FACE.getDeclaredConstructors()) {
            seen.add(constructor.toString());
        }
        Check.due("what is seen", seen.toString(), due.toString());
    }

    private static void nothingElseIsSeen() {
        Check.due("the class", Modifier.toString(FACE.getModifiers()), "public final");
        Check.due("what it extends", FACE.getSuperclass().getName(), "java.lang.Object");
        Check.due("what it implements", FACE.getInterfaces().length, 0);
        Set<String> names = new HashSet<>();
        for (Method method : FACE.getDeclaredMethods()) {
            if (!Modifier.isPrivate(method.getModifiers())) {
                names.add(method.getName());
            }
        }
        for (Field field : FACE.getDeclaredFields()) {
            Check.due(field + " is private", Modifier.isPrivate(field.getModifiers()), true);
            staticIsFinal(field);
        }
        for (Method method : FACE.getDeclaredMethods()) {
            if (Modifier.isPrivate(method.getModifiers())) {
                hasOwnName(method, names);
            }
        }
        for (Class<?> inside : FACE.getDeclaredClasses()) {
            classInside(inside, names);
        }
    }

    private static void classInside(Class<?> inside, Set<String> names) {
        Check.due(inside + " is static", Modifier.isStatic(inside.getModifiers()), true);
        Check.due(inside + " is not public", Modifier.isPublic(inside.getModifiers()), false);
        for (Method method : inside.getDeclaredMethods()) {
            hasOwnName(method, names);
        }
        for (Field field : inside.getDeclaredFields()) {
            staticIsFinal(field);
        }
    }

    private static void hasOwnName(Method method, Set<String> names) {
        Check.due(method + " has a public one's name", names.contains(method.getName()), false);
    }

    private static void staticIsFinal(Field field) {
        boolean shared = Modifier.isStatic(field.getModifiers());
        Check.due(field + " is final if static", !shared || Modifier.isFinal(field.getModifiers()), true);
    }
}
