import java.lang.reflect.Constructor;
import java.lang.reflect.Field;
import java.lang.reflect.Method;
import java.lang.reflect.Modifier;
import java.util.Arrays;
import java.util.Set;
import java.util.TreeSet;

/** The public face, as the document writes it, and no other member of the class that can be reached. */
public final class FaceTest {
    private static final String BOUNDS = " throws IndexOutOfBoundsException";
    private static final String ARGUMENT = "IllegalArgumentException";
    private static final String STATE = "IllegalStateException";

    private static final String[] FACE = {
        "int code(int)" + BOUNDS,
        "int character(int, boolean)" + BOUNDS,
        "int apart(int, int)" + BOUNDS,
        "int doubts(int)" + BOUNDS,
        "int setLine(int, int, int)" + BOUNDS + ", " + ARGUMENT,
        "int setPlay(int) throws " + ARGUMENT,
        "boolean setUnshift(boolean)",
        "int receive(int)" + BOUNDS,
        "int punch(int)" + BOUNDS + ", " + STATE,
        "int type(int)" + BOUNDS + ", " + STATE,
        "int rub(int)" + BOUNDS,
        "int run(int) throws " + ARGUMENT,
        "int wind(int)" + BOUNDS,
        "int tape(int)" + BOUNDS,
        "int page(int, int)" + BOUNDS,
        "int length(int)" + BOUNDS,
        "int count(int)" + BOUNDS,
        "int would(int)" + BOUNDS,
        "int wrong()",
        "int idle()",
        "int prints(int)" + BOUNDS,
        "double mean()",
        "long digest()",
    };

    public static void main(String[] args) {
        Check check = new Check();
        Class<?> face = TapePrinter.class;
        check.tell(Modifier.isPublic(face.getModifiers()) && Modifier.isFinal(face.getModifiers()),
                "the class is not public and final");
        check.tell(face.getPackageName().isEmpty(), "the class has a package");
        methods(check, face);
        constructors(check, face);
        for (Field field : face.getDeclaredFields()) {
            check.tell(Modifier.isPrivate(field.getModifiers()), "a field is not private: " + field);
            check.tell(!Modifier.isStatic(field.getModifiers()) || Modifier.isFinal(field.getModifiers()),
                    "a static field is not final: " + field);
        }
        check.end();
    }

    private static void methods(Check check, Class<?> face) {
        Set<String> due = new TreeSet<>(Arrays.asList(FACE));
        Set<String> found = new TreeSet<>();
        Set<String> publicNames = new TreeSet<>();
        for (Method method : face.getDeclaredMethods()) {
            if (Modifier.isPublic(method.getModifiers()) && !Modifier.isStatic(method.getModifiers())) {
                found.add(written(method));
                publicNames.add(method.getName());
            }
        }
        check.tell(found.equals(due), "the face is " + found + ", due is " + due);
        for (Method method : face.getDeclaredMethods()) {
            check.tell(Modifier.isPrivate(method.getModifiers()) || due.contains(written(method)),
                    "not of the face: " + method);
            check.tell(!Modifier.isPrivate(method.getModifiers()) || !publicNames.contains(method.getName()),
                    "a private method with a name of the face: " + method);
        }
    }

    private static void constructors(Check check, Class<?> face) {
        Constructor<?>[] all = face.getDeclaredConstructors();
        check.same("constructors", all.length, 1);
        check.same("parameters of the constructor", all[0].getParameterCount(), 0);
        check.tell(Modifier.isPublic(all[0].getModifiers()), "the constructor is not public");
        check.same("exceptions of the constructor", all[0].getExceptionTypes().length, 0);
    }

    private static String written(Method method) {
        String thrown = names(method.getExceptionTypes());
        return method.getReturnType().getSimpleName() + " " + method.getName()
                + "(" + names(method.getParameterTypes()) + ")"
                + (thrown.isEmpty() ? "" : " throws " + thrown);
    }

    private static String names(Class<?>[] types) {
        StringBuilder text = new StringBuilder();
        for (Class<?> type : types) {
            text.append(text.length() == 0 ? "" : ", ").append(type.getSimpleName());
        }
        return text.toString();
    }
}
