import java.io.IOException;
import java.lang.reflect.Field;
import java.lang.reflect.Method;
import java.lang.reflect.Modifier;
import java.nio.file.Files;
import java.nio.file.Path;
import java.util.HashSet;
import java.util.List;
import java.util.Set;
import java.util.regex.Matcher;
import java.util.regex.Pattern;

/** The rules of ../shared/LANGUAGE.md that can be looked up in the class or in its text. */
public final class LanguageTest {
    private static final String FILE = "src/main/java/HelpDesk.java";
    private static final int MOST_CLASSES = 12;
    private static final int MOST_FIELDS = 20;
    private static final int MOST_PARAMETERS = 7;

    /** What the program does without, though the rules allow some of it. */
    private static final String[] ABSENT = {"\\bcatch\\b", "\\btry\\b", "\\bfinally\\b", "->", "::",
        "\\bsynchronized\\b", "\\bassert\\b", "\\binstanceof\\b", "\\bpackage\\b", "\\bstatic \\{",
        "\\bSystem\\b", "\\bThread\\b", "\\bvar\\b", "Exact\\b", "^import (?!java\\.util\\.ArrayList;)",
        "\\bMath\\.(?!min\\(|max\\()"};

    public static void main(String[] args) throws IOException {
        List<Class<?>> inside = List.of(HelpDesk.class.getDeclaredClasses());
        Check.same("rule 11: few classes", inside.size() < MOST_CLASSES, true);
        namesOfPrivateMethods();
        look(HelpDesk.class);
        for (Class<?> one : inside) {
            Check.same("rule 1: static " + one, Modifier.isStatic(one.getModifiers()), true);
            Check.same("rule 1: not public " + one,
                    (one.getModifiers() & (Modifier.PUBLIC | Modifier.PROTECTED)) == 0, true);
            look(one);
        }
        text(Files.readString(Path.of(FILE)));
        Check.finish("LanguageTest");
    }

    private static void namesOfPrivateMethods() {
        Set<String> open = new HashSet<>();
        for (Method method : HelpDesk.class.getMethods()) {
            open.add(method.getName());
        }
        for (Method method : HelpDesk.class.getDeclaredMethods()) {
            Check.same("rule 1: the name of " + method, Modifier.isPrivate(method.getModifiers())
                    && open.contains(method.getName()), false);
        }
    }

    private static void look(Class<?> one) {
        int fields = 0;
        for (Field field : one.getDeclaredFields()) {
            if (Modifier.isStatic(field.getModifiers())) {
                Check.same("rule 5: final " + field, Modifier.isFinal(field.getModifiers()), true);
            } else {
                fields++;
            }
        }
        Check.same("rule 11: few fields in " + one, fields <= MOST_FIELDS, true);
        for (Method method : one.getDeclaredMethods()) {
            Check.same("rule 11: few parameters of " + method,
                    method.getParameterCount() <= MOST_PARAMETERS, true);
        }
    }

    private static void text(String text) {
        String code = text.replaceAll("(?s)/\\*.*?\\*/", "").replaceAll("//[^\n]*", "")
                .replaceAll("\"[^\"\n]*\"", "\"\"");
        for (String absent : ABSENT) {
            Matcher found = Pattern.compile(absent, Pattern.MULTILINE).matcher(code);
            Check.same("no " + absent + " in the program", found.find(), false);
        }
    }
}
