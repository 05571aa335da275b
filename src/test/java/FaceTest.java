import java.lang.reflect.Constructor;
import java.lang.reflect.Field;
import java.lang.reflect.Method;
import java.lang.reflect.Modifier;
import java.util.Arrays;
import java.util.TreeSet;

/** The class shows the document's face and nothing else. */
public final class FaceTest {
    private static final String[] FACE = {
        "boolean setHours(int, int) IllegalArgumentException",
        "int setTargets(int, int, int) IndexOutOfBoundsException IllegalArgumentException",
        "int now()",
        "int service(int, int) IllegalArgumentException",
        "int addAgent(int, int, int, int) IllegalArgumentException IllegalStateException",
        "int setSkills(int, int) IndexOutOfBoundsException IllegalArgumentException",
        "int agent(int, int) IndexOutOfBoundsException",
        "int next(int) IndexOutOfBoundsException",
        "int open(int, int, int, int) IllegalArgumentException IllegalStateException",
        "int setPriority(int, int) IndexOutOfBoundsException IllegalArgumentException IllegalStateException",
        "int pause(int) IndexOutOfBoundsException IllegalStateException",
        "int resume(int) IndexOutOfBoundsException IllegalStateException",
        "int merge(int, int) IndexOutOfBoundsException IllegalArgumentException IllegalStateException",
        "int reopen(int, int) IndexOutOfBoundsException IllegalArgumentException IllegalStateException",
        "int ticketCount()",
        "int ticket(int, int) IndexOutOfBoundsException",
        "int main(int) IndexOutOfBoundsException",
        "int customers(int) IndexOutOfBoundsException",
        "int due(int) IndexOutOfBoundsException",
        "int pass(int) IllegalArgumentException IllegalStateException",
        "int all(int) IndexOutOfBoundsException",
        "int broken(boolean)",
        "int lacking()",
        "double success()",
        "long digest()",
    };

    public static void main(String[] args) {
        TreeSet<String> due = new TreeSet<>(Arrays.asList(FACE));
        TreeSet<String> got = new TreeSet<>();
        for (Method method : HelpDesk.class.getDeclaredMethods()) {
            if (!Modifier.isPrivate(method.getModifiers())) {
                got.add(told(method));
            }
        }
        if (!got.equals(due)) {
            Check.fail("the face is " + got + ", due is " + due);
        }
        Check.same("modifiers", HelpDesk.class.getModifiers(), Modifier.PUBLIC | Modifier.FINAL);
        Constructor<?>[] constructors = HelpDesk.class.getDeclaredConstructors();
        Check.same("constructors", constructors.length, 1);
        Check.same("constructor's parameters", constructors[0].getParameterCount(), 0);
        Check.same("constructor is public", Modifier.isPublic(constructors[0].getModifiers()), true);
        for (Field field : HelpDesk.class.getDeclaredFields()) {
            Check.same("private " + field.getName(), Modifier.isPrivate(field.getModifiers()), true);
        }
        Check.finish("FaceTest");
    }

    private static String told(Method method) {
        StringBuilder told = new StringBuilder();
        told.append(method.getReturnType().getSimpleName()).append(' ').append(method.getName());
        told.append('(');
        for (int i = 0; i < method.getParameterCount(); i++) {
            told.append(i == 0 ? "" : ", ").append(method.getParameterTypes()[i].getSimpleName());
        }
        told.append(')');
        for (Class<?> thrown : method.getExceptionTypes()) {
            told.append(' ').append(thrown.getSimpleName());
        }
        return told.toString();
    }
}
