import java.lang.reflect.Constructor;
import java.lang.reflect.Field;
import java.lang.reflect.Method;
import java.lang.reflect.Modifier;
import java.util.Set;
import java.util.TreeSet;

/** The public face: what the document names, and nothing else that another class could see. */
public final class FaceTest {
    private static final Set<String> FACE = Set.of("int unit(int,int,int)", "int rule(int,int,int)",
        "int own(int,boolean)", "void sign(int)", "int read()", "int may(int,int,int)", "int together(int,int)",
        "int mark(int,int)", "int asked(int)", "int never(int)", "int order(int,int)", "int told(int,int)",
        "int about(int,int)", "int count(int)");

    public static void main(String[] args) {
        Check check = new Check("the face");
        Class<?> face = FragileRules.class;
        check.compare("the class", "public final", Modifier.toString(face.getModifiers()));
        Constructor<?>[] constructors = face.getDeclaredConstructors();
        check.compare("constructors", "1", String.valueOf(constructors.length));
        check.compare("the constructor", "public FragileRules()", constructors[0].toString());

        Set<String> seen = new TreeSet<>();
        Set<String> hidden = new TreeSet<>();
        for (Method method : face.getDeclaredMethods()) {
            if (Modifier.isPrivate(method.getModifiers())) {
                hidden.add(method.getName());
            } else {
                seen.add(signature(method));
            }
        }
        check.compare("methods", new TreeSet<>(FACE).toString(), seen.toString());
        for (String method : FACE) {
            String name = method.substring(method.indexOf(' ') + 1, method.indexOf('('));
            check.compare("a private method named " + name, "false", String.valueOf(hidden.contains(name)));
        }
        for (Field field : face.getDeclaredFields()) {
            check.compare("field " + field.getName() + " is private", "true",
                String.valueOf(Modifier.isPrivate(field.getModifiers())));
            check.compare("field " + field.getName() + " is final if it is static", "true",
                String.valueOf(!Modifier.isStatic(field.getModifiers()) || Modifier.isFinal(field.getModifiers())));
        }
        check.end();
    }

    private static String signature(Method method) {
        String plain = Modifier.isPublic(method.getModifiers()) && !Modifier.isStatic(method.getModifiers()) ? "" : "?";
        StringBuilder types = new StringBuilder();
        for (Class<?> type : method.getParameterTypes()) {
            types.append(types.length() == 0 ? "" : ",").append(type.getSimpleName());
        }
        return plain + method.getReturnType().getSimpleName() + " " + method.getName() + "(" + types + ")";
    }
}
