import java.lang.reflect.Constructor;
import java.lang.reflect.Field;
import java.lang.reflect.Method;
import java.lang.reflect.Modifier;
import java.util.HashSet;
import java.util.Set;
import java.util.TreeSet;

/** The class has the public face of the document, and nothing else that others can see. */
public final class FaceTest {
    private static final String[] METHODS = {
        "boolean exchange(int,int,int) throws", "int order(int) throws", "boolean unit(int)",
        "int read()", "int length(int) throws", "int row(int,int) throws",
        "int image(int,int) throws", "void act(int) throws", "boolean swap(int,int) throws",
        "int at(int) throws", "int stage()", "boolean goal(int,int,boolean) throws",
        "boolean use(int,int) throws", "int run(int) throws", "int did(int)",
        "int states(int) throws", "int fails(int) throws", "int setUp(int,int,int)",
        "int text(int,int) throws",
    };

    public static void main(String[] args) {
        Class<?> face = StageRows.class;
        Check.due("public and final", Modifier.toString(face.getModifiers()), "public final");
        Set<String> seen = new TreeSet<>();
        Set<String> names = new HashSet<>();
        for (Method method : face.getDeclaredMethods()) {
            if (Modifier.isPrivate(method.getModifiers())) {
                continue;
            }
            Check.due(method + " is", Modifier.toString(method.getModifiers()), "public");
            seen.add(told(method));
            names.add(method.getName());
        }
        Check.due("public methods", seen.toString(), new TreeSet<>(Set.of(METHODS)).toString());
        hidden(face, names);
        for (Class<?> inside : face.getDeclaredClasses()) {
            Check.due(inside + " is static", Modifier.isStatic(inside.getModifiers()), true);
            Check.due(inside + " is not public", Modifier.isPublic(inside.getModifiers()), false);
            hiddenNames(inside, names);
        }
        Check.end();
    }

    private static void hidden(Class<?> face, Set<String> names) {
        Constructor<?>[] all = face.getDeclaredConstructors();
        Check.due("constructors", all.length, 1);
        Check.due("the constructor", all[0].toString(), "public StageRows(int,int)");
        for (Field field : face.getDeclaredFields()) {
            Check.due(field + " is private", Modifier.isPrivate(field.getModifiers()), true);
        }
        for (Method method : face.getDeclaredMethods()) {
            if (Modifier.isPrivate(method.getModifiers())) {
                Check.due(method + " has a public one's name", names.contains(method.getName()), false);
            }
        }
    }

    private static void hiddenNames(Class<?> inside, Set<String> names) {
        for (Method method : inside.getDeclaredMethods()) {
            Check.due(method + " has a public one's name", names.contains(method.getName()), false);
        }
        for (Field field : inside.getDeclaredFields()) {
            boolean shared = Modifier.isStatic(field.getModifiers());
            Check.due(field + " is final if static", !shared || Modifier.isFinal(field.getModifiers()), true);
        }
    }

    private static String told(Method method) {
        StringBuilder all = new StringBuilder(method.getReturnType().getName());
        all.append(' ').append(method.getName()).append('(');
        for (Class<?> type : method.getParameterTypes()) {
            all.append(all.charAt(all.length() - 1) == '(' ? "" : ",").append(type.getName());
        }
        all.append(')');
        for (Class<?> type : method.getExceptionTypes()) {
            all.append(type == ArrayIndexOutOfBoundsException.class ? " throws" : " " + type);
        }
        return all.toString();
    }
}
