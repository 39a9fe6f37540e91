import java.lang.reflect.Constructor;
import java.lang.reflect.Field;
import java.lang.reflect.Method;
import java.lang.reflect.Modifier;
import java.util.Set;
import java.util.TreeSet;

/** The public face: what the document names, and nothing else that another class could see. */
public final class FaceTest {
    private static final String ARGUMENT = "IllegalArgumentException";
    private static final String STATE = "IllegalStateException";
    private static final String ELEMENT = "NoSuchElementException";
    private static final String ROOM = "UnsupportedOperationException";

    private static final Set<String> FACE = Set.of(
        "int unit(int,int,int) throws " + ARGUMENT + "," + ROOM,
        "int rule(int,int,int) throws " + ARGUMENT + "," + ROOM,
        "int own(int,boolean) throws " + ARGUMENT + "," + ROOM,
        "void sign(int) throws " + ARGUMENT + "," + ROOM,
        "int read() throws " + ROOM,
        "int may(int,int,int) throws " + ELEMENT + "," + ARGUMENT + "," + STATE,
        "int together(int,int) throws " + ELEMENT + "," + STATE,
        "int mark(int,int) throws " + ELEMENT + "," + ARGUMENT + "," + STATE,
        "int asked(int)",
        "int never(int) throws " + ARGUMENT,
        "int order(int,int) throws " + ELEMENT + "," + ARGUMENT,
        "int told(int,int) throws " + ELEMENT + "," + ARGUMENT,
        "int about(int,int) throws " + ELEMENT + "," + ARGUMENT,
        "int count(int)");

    public static void main(String[] args) {
        Check check = new Check("the face");
        Class<?> face = FragileRules.class;
        check.compare("the class", "public final", Modifier.toString(face.getModifiers()));
        Constructor<?>[] constructors = face.getDeclaredConstructors();
        check.compare("constructors", "1", String.valueOf(constructors.length));
        check.compare("the constructor", "public FragileRules()", constructors[0].toString());

        Set<String> seen = new TreeSet<>();
        Set<String> hidden = new TreeSet<>();
        for (Method method : face.getDeclaredMethods()) {
            if (Modifier.isPrivate(method.getModifiers())) {
                hidden.add(method.getName());
            } else {
                seen.add(signature(method));
            }
        }
        check.compare("methods", new TreeSet<>(FACE).toString(), seen.toString());
        for (String method : FACE) {
            String name = method.substring(method.indexOf(' ') + 1, method.indexOf('('));
            check.compare("a private method named " + name, "false", String.valueOf(hidden.contains(name)));
        }
        for (Class<?> inside : face.getDeclaredClasses()) {
            int modifiers = inside.getModifiers();
            check.compare("class " + inside.getSimpleName() + " is static and not to be seen", "true", String.valueOf(
                Modifier.isStatic(modifiers) && !Modifier.isPublic(modifiers) && !Modifier.isProtected(modifiers)));
        }
        for (Field field : face.getDeclaredFields()) {
            check.compare("field " + field.getName() + " is private", "true",
                String.valueOf(Modifier.isPrivate(field.getModifiers())));
            check.compare("field " + field.getName() + " is final if it is static", "true",
                String.valueOf(!Modifier.isStatic(field.getModifiers()) || Modifier.isFinal(field.getModifiers())));
        }
        check.end();
    }

    private static String signature(Method method) {
        String plain = Modifier.isPublic(method.getModifiers()) && !Modifier.isStatic(method.getModifiers()) ? "" : "?";
        String thrown = names(method.getExceptionTypes());
        return plain + method.getReturnType().getSimpleName() + " " + method.getName() + "("
            + names(method.getParameterTypes()) + ")" + (thrown.isEmpty() ? "" : " throws " + thrown);
    }

    private static String names(Class<?>[] types) {
        StringBuilder names = new StringBuilder();
        for (Class<?> type : types) {
            names.append(names.length() == 0 ? "" : ",").append(type.getSimpleName());
        }
        return names.toString();
    }
}
