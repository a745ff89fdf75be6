import java.lang.reflect.Constructor;
import java.lang.reflect.Field;
import java.lang.reflect.Method;
import java.lang.reflect.Modifier;
import java.util.ArrayList;
import java.util.List;

/** The public face, as the document tells it, and nothing beside it. */
final class FaceTest {
    private static final String I = "IndexOutOfBoundsException";
    private static final String A = "IllegalArgumentException";
    private static final String S = "IllegalStateException";

    private static final String[] FACE = {
        "int field(int int int int int) " + I + " " + A + " " + S,
        "int crop(int int int) " + I + " " + A,
        "int combine(int int) " + A + " " + S,
        "int truck(int) " + A + " " + S,
        "int elevator(int int int int int int) " + A + " " + S,
        "int price(int) " + A,
        "int cut(int int) " + I,
        "int fetch(int int) " + I,
        "int haul(int int) " + I,
        "int stop(int) " + I,
        "int mend(int) " + I + " " + S,
        "int train(int int) " + I + " " + A,
        "int pass(int int int int) " + A + " " + S,
        "int ofField(int int) " + I + " " + A,
        "int ofCombine(int int) " + I + " " + A,
        "int ofTruck(int int) " + I + " " + A,
        "int ofTicket(int int) " + I + " " + A,
        "int owed(int boolean) " + I,
        "int many(int) " + A,
        "double meanDamp()",
        "int readyIn(int int int) " + I + " " + A,
        "int nextField(int int int int) " + I + " " + A,
        "int waiting(int int int int int) " + I + " " + A,
        "long digest()",
    };

    private FaceTest() {
    }

    public static void main(String[] args) {
        classIsPublicAndFinal();
        methodsAreThoseOfTheFace();
        fieldsArePrivate();
        innerClassesAreHidden();
        Check.end();
    }

    private static void classIsPublicAndFinal() {
        int modifiers = WheatRun.class.getModifiers();
        Check.due("public", Modifier.isPublic(modifiers) ? 1 : 0, 1);
        Check.due("final", Modifier.isFinal(modifiers) ? 1 : 0, 1);
        Constructor<?>[] constructors = WheatRun.class.getDeclaredConstructors();
        Check.due("constructors", constructors.length, 1);
        Check.due("its arguments", constructors[0].getParameterCount(), 0);
        Check.due("it is public", Modifier.isPublic(constructors[0].getModifiers()) ? 1 : 0, 1);
    }

    private static String told(Method method) {
        StringBuilder text = new StringBuilder();
        text.append(method.getReturnType().getSimpleName()).append(' ').append(method.getName()).append('(');
        String gap = "";
        for (Class<?> type : method.getParameterTypes()) {
            text.append(gap).append(type.getSimpleName());
            gap = " ";
        }
        text.append(')');
        for (Class<?> type : method.getExceptionTypes()) {
            text.append(' ').append(type.getSimpleName());
        }
        return text.toString();
    }

    private static void methodsAreThoseOfTheFace() {
        List<String> face = new ArrayList<String>(List.of(FACE));
        for (Method method : WheatRun.class.getDeclaredMethods()) {
            boolean isPublic = Modifier.isPublic(method.getModifiers());
            if (isPublic && !face.remove(told(method))) {
                Check.fail("not of the face: " + told(method));
            }
            if (!isPublic && !Modifier.isPrivate(method.getModifiers())) {
                Check.fail("neither public nor private: " + told(method));
            }
        }
        for (String missing : face) {
            Check.fail("missing: " + missing);
        }
    }

    private static void fieldsArePrivate() {
        for (Field field : WheatRun.class.getDeclaredFields()) {
            int modifiers = field.getModifiers();
            Check.due(field.getName() + " is private", Modifier.isPrivate(modifiers) ? 1 : 0, 1);
            Check.due(field.getName() + " is final", Modifier.isFinal(modifiers) ? 1 : 0, 1);
        }
    }

    private static void innerClassesAreHidden() {
        for (Class<?> inner : WheatRun.class.getDeclaredClasses()) {
            int modifiers = inner.getModifiers();
            boolean isShown = Modifier.isPublic(modifiers) || Modifier.isProtected(modifiers);
            Check.due(inner.getName() + " is shown", isShown ? 1 : 0, 0);
            Check.due(inner.getName() + " is static", Modifier.isStatic(modifiers) ? 1 : 0, 1);
        }
    }
}
