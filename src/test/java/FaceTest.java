import java.lang.reflect.Constructor;
import java.lang.reflect.Field;
import java.lang.reflect.Method;
import java.lang.reflect.Modifier;
import java.util.Set;
import java.util.TreeSet;

/** The public face is the document's, and the class keeps to rules 1 and 11 of LANGUAGE.md where reflection can tell. */
public final class FaceTest {
    private static final Check CHECK = new Check();
    private static final Set<String> FACE = Set.of("int type(long,int) IllegalArgumentException IllegalStateException",
        "int clear()", "int assemble(int,int) IllegalArgumentException NoSuchElementException", "int fault(int)",
        "int peek(int,int)", "boolean poke(int,int,int)", "int shared(int)", "boolean part(int,int,int)",
        "boolean start(int,int)", "int run(int)", "int now()", "int register(int,int)", "int state(int,int)",
        "int trace(int,int,int)");

    public static void main(String[] args) {
        Class<?> face = TimedThreads.class;
        CHECK.due("public and final", Modifier.isPublic(face.getModifiers()) && Modifier.isFinal(face.getModifiers()), true);
        Constructor<?>[] constructors = face.getDeclaredConstructors();
        CHECK.due("constructors", constructors.length, 1);
        CHECK.due("of an int", constructors[0].toString().equals("public TimedThreads(int)"), true);
        Set<String> found = new TreeSet<>();
        Set<String> names = new TreeSet<>();
        for (Method method : face.getDeclaredMethods()) {
            if (!Modifier.isPrivate(method.getModifiers())) {
                found.add(signature(method));
                names.add(method.getName());
                CHECK.due(method + " is public", Modifier.isPublic(method.getModifiers()), true);
            }
        }
        CHECK.due("the face " + found, found.equals(FACE), true);
        checkClass(face, names);
        for (Class<?> inside : face.getDeclaredClasses()) {
            CHECK.due(inside + " is static", Modifier.isStatic(inside.getModifiers()), true);
            CHECK.due(inside + " is not public", Modifier.isPublic(inside.getModifiers()), false);
            checkClass(inside, names);
        }
        CHECK.due("some twelve classes", face.getDeclaredClasses().length <= 11, true);
        CHECK.end();
    }

    private static String signature(Method method) {
        StringBuilder text = new StringBuilder(method.getReturnType().getName()).append(' ').append(method.getName());
        String separator = "(";
        for (Class<?> parameter : method.getParameterTypes()) {
            text.append(separator).append(parameter.getName());
            separator = ",";
        }
        text.append(separator.equals("(") ? "()" : ")");
        Set<String> thrown = new TreeSet<>();
        for (Class<?> exception : method.getExceptionTypes()) {
            thrown.add(exception.getSimpleName());
        }
        for (String exception : thrown) {
            text.append(' ').append(exception);
        }
        return text.toString();
    }

    private static void checkClass(Class<?> type, Set<String> names) {
        int fields = 0;
        for (Field field : type.getDeclaredFields()) {
            boolean isStatic = Modifier.isStatic(field.getModifiers());
            fields += isStatic ? 0 : 1;
            CHECK.due(field + " static but not final", isStatic && !Modifier.isFinal(field.getModifiers()), false);
            if (type == TimedThreads.class) {
                CHECK.due(field + " is private", Modifier.isPrivate(field.getModifiers()), true);
            }
        }
        CHECK.due(type + " fields", fields <= 20, true);
        for (Method method : type.getDeclaredMethods()) {
            CHECK.due(method + " parameters", method.getParameterCount() <= 7, true);
            boolean bearsName = type != TimedThreads.class || Modifier.isPrivate(method.getModifiers());
            CHECK.due(method + " bears a name of the face", bearsName && names.contains(method.getName()), false);
        }
    }
}
