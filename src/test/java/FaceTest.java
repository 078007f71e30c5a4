import java.lang.reflect.Constructor;
import java.lang.reflect.Field;
import java.lang.reflect.Method;
import java.lang.reflect.Modifier;
import java.lang.reflect.Parameter;
import java.util.Arrays;
import java.util.Set;
import java.util.TreeSet;

/** The public face, as the document writes it, and no other member of the class that can be reached. */
public final class FaceTest {
    private static final String BOUNDS = "IndexOutOfBoundsException";
    private static final String ARGUMENT = "IllegalArgumentException";
    private static final String STATE = "IllegalStateException";

    private static final String[] FACE = {
        "int code(int character) throws " + BOUNDS,
        "int character(int code, boolean isFigures) throws " + BOUNDS,
        "int apart(int a, int b) throws " + BOUNDS,
        "int doubts(int code) throws " + BOUNDS,
        "int setLine(int place, int late, int garble) throws " + BOUNDS + ", " + ARGUMENT,
        "int setPlay(int play) throws " + ARGUMENT,
        "boolean setUnshift(boolean does)",
        "int receive(int code) throws " + BOUNDS,
        "int punch(int code) throws " + BOUNDS + ", " + STATE,
        "int type(int character) throws " + BOUNDS + ", " + STATE,
        "int rub(int place) throws " + BOUNDS,
        "int run(int many) throws " + ARGUMENT,
        "int wind(int place) throws " + BOUNDS,
        "int tape(int place) throws " + BOUNDS,
        "int page(int line, int place) throws " + BOUNDS,
        "int length(int line) throws " + BOUNDS,
        "int count(int what) throws " + BOUNDS,
        "int would(int code) throws " + BOUNDS,
        "int wrong()",
        "int idle()",
        "int prints(int place) throws " + BOUNDS,
        "double mean()",
        "long digest()",
    };

    public static void main(String[] args) {
        Check check = new Check();
        Class<?> face = TapePrinter.class;
        check.tell(Modifier.isPublic(face.getModifiers()) && Modifier.isFinal(face.getModifiers()),
                "the class is not public and final");
        check.tell(face.getPackageName().isEmpty(), "the class has a package");
        methods(check, face);
        constructors(check, face);
        for (Field field : face.getDeclaredFields()) {
            check.tell(Modifier.isPrivate(field.getModifiers()), "a field is not private: " + field);
            check.tell(!Modifier.isStatic(field.getModifiers()) || Modifier.isFinal(field.getModifiers()),
                    "a static field is not final: " + field);
        }
        for (Class<?> inside : face.getDeclaredClasses()) {
            check.tell(Modifier.isStatic(inside.getModifiers()) && !Modifier.isPublic(inside.getModifiers())
                    && !Modifier.isProtected(inside.getModifiers()), "a class inside can be reached: " + inside);
        }
        check.end();
    }

    private static void methods(Check check, Class<?> face) {
        Set<String> due = new TreeSet<>(Arrays.asList(FACE));
        Set<String> found = new TreeSet<>();
        Set<String> publicNames = new TreeSet<>();
        for (Method method : face.getDeclaredMethods()) {
            if (Modifier.isPublic(method.getModifiers()) && !Modifier.isStatic(method.getModifiers())) {
                found.add(written(method));
                publicNames.add(method.getName());
            }
        }
        check.tell(found.equals(due), "the face is " + found + ", due is " + due);
        for (Method method : face.getDeclaredMethods()) {
            check.tell(Modifier.isPrivate(method.getModifiers()) || due.contains(written(method)),
                    "not of the face: " + method);
            check.tell(!Modifier.isPrivate(method.getModifiers()) || !publicNames.contains(method.getName()),
                    "a private method with a name of the face: " + method);
        }
    }

    private static void constructors(Check check, Class<?> face) {
        Constructor<?>[] all = face.getDeclaredConstructors();
        check.same("constructors", all.length, 1);
        check.same("parameters of the constructor", all[0].getParameterCount(), 0);
        check.tell(Modifier.isPublic(all[0].getModifiers()), "the constructor is not public");
        check.same("exceptions of the constructor", all[0].getExceptionTypes().length, 0);
    }

    /** As the document writes it; the names of parameters are there if javac was told to keep them. */
    private static String written(Method method) {
        StringBuilder text = new StringBuilder(method.getReturnType().getSimpleName());
        text.append(' ').append(method.getName()).append('(');
        String between = "";
        for (Parameter parameter : method.getParameters()) {
            text.append(between).append(parameter.getType().getSimpleName()).append(' ').append(parameter.getName());
            between = ", ";
        }
        text.append(')');
        between = " throws ";
        for (Class<?> thrown : method.getExceptionTypes()) {
            text.append(between).append(thrown.getSimpleName());
            between = ", ";
        }
        return text.toString();
    }
}
