import java.lang.reflect.Constructor;
import java.lang.reflect.Field;
import java.lang.reflect.Method;
import java.lang.reflect.Modifier;
import java.util.Arrays;
import java.util.HashSet;
import java.util.Set;
import java.util.TreeSet;

/** The public face: just the document's members, with its signatures, and no name of it used twice. */
public final class FaceTest {
    private static final String[] FACE = {
        "void day(int) IllegalArgumentException NegativeArraySizeException",
        "int unit(int,int,int,int) IndexOutOfBoundsException UnsupportedOperationException",
        "void go(int,int,int,int) IllegalArgumentException IndexOutOfBoundsException",
        "int repeater(int,int,int,int) IndexOutOfBoundsException UnsupportedOperationException",
        "boolean patch(int,int) IndexOutOfBoundsException",
        "void limit(int) IndexOutOfBoundsException",
        "int speak(int,int,int,int) IllegalArgumentException IndexOutOfBoundsException"
            + " IllegalStateException UnsupportedOperationException",
        "int relay(int,int,int,int) IllegalArgumentException IndexOutOfBoundsException"
            + " IllegalStateException UnsupportedOperationException",
        "boolean lose(int) ArrayIndexOutOfBoundsException",
        "int hears(int,int) IllegalArgumentException ArrayIndexOutOfBoundsException",
        "int on(int,int) IllegalArgumentException ArrayIndexOutOfBoundsException",
        "int ended(int) IllegalArgumentException",
        "int length(int) IllegalArgumentException",
        "int unheard(int,int) IllegalArgumentException IndexOutOfBoundsException",
        "int used(int,int,int) IllegalArgumentException IndexOutOfBoundsException",
    };

    public static void main(String[] args) {
        Cases cases = new Cases();
        cases.test("the class is public and final", FaceTest::theClass);
        cases.test("one constructor, public, without parameters", FaceTest::constructor);
        cases.test("the methods of the document alone", FaceTest::methods);
        cases.test("fields are private, static ones final", FaceTest::fields);
        cases.test("classes inside are static, and not public", FaceTest::classesInside);
        cases.close();
    }

    private static void theClass(Check check) {
        int modifiers = ChannelRows.class.getModifiers();
        check.due("public and final", true, Modifier.isPublic(modifiers) && Modifier.isFinal(modifiers));
    }

    private static void constructor(Check check) {
        Constructor<?>[] made = ChannelRows.class.getDeclaredConstructors();
        check.due("constructors", 1, made.length);
        check.due("public, without parameters", true,
                Modifier.isPublic(made[0].getModifiers()) && made[0].getParameterCount() == 0);
    }

    private static void fields(Check check) {
        for (Field field : ChannelRows.class.getDeclaredFields()) {
            check.due("private: " + field, true, Modifier.isPrivate(field.getModifiers()));
            check.due("no static state: " + field, true, !Modifier.isStatic(field.getModifiers())
                    || Modifier.isFinal(field.getModifiers()));
        }
    }

    private static void classesInside(Check check) {
        for (Class<?> inner : ChannelRows.class.getDeclaredClasses()) {
            check.due("static: " + inner, true, Modifier.isStatic(inner.getModifiers()));
            check.due("public: " + inner, false, Modifier.isPublic(inner.getModifiers()));
        }
    }

    private static void methods(Check check) {
        Set<String> shown = new TreeSet<>();
        Set<String> names = new HashSet<>();
        for (Method method : ChannelRows.class.getDeclaredMethods()) {
            if (Modifier.isPublic(method.getModifiers())) {
                shown.add(written(method));
                names.add(method.getName());
            }
        }
        Set<String> due = new TreeSet<>(Arrays.asList(FACE));
        check.due("the face is " + shown + ", due is " + due, true, shown.equals(due));
        for (Method method : ChannelRows.class.getDeclaredMethods()) {
            if (!Modifier.isPublic(method.getModifiers())) {
                check.due("private: " + method, true, Modifier.isPrivate(method.getModifiers()));
                check.due("a name of its own: " + method, false, names.contains(method.getName()));
            }
        }
    }

    private static String written(Method method) {
        StringBuilder text = new StringBuilder();
        text.append(method.getReturnType()).append(' ').append(method.getName()).append('(');
        Class<?>[] takes = method.getParameterTypes();
        for (int i = 0; i < takes.length; i++) {
            text.append(i == 0 ? "" : ",").append(takes[i]);
        }
        text.append(')');
        for (Class<?> thrown : method.getExceptionTypes()) {
            text.append(' ').append(thrown.getSimpleName());
        }
        return text.toString();
    }
}
