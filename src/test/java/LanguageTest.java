import java.io.IOException;
import java.lang.reflect.Field;
import java.lang.reflect.Method;
import java.lang.reflect.Modifier;
import java.nio.file.Files;
import java.nio.file.Path;
import java.util.HashSet;
import java.util.List;
import java.util.Set;
import java.util.regex.Matcher;
import java.util.regex.Pattern;

/** The rules of ../shared/LANGUAGE.md that can be looked up in the class or in its text. */
public final class LanguageTest {
    private static final String FILE = "src/main/java/HelpDesk.java";
    private static final int MOST_CLASSES = 12;
    private static final int MOST_FIELDS = 20;
    private static final int MOST_PARAMETERS = 7;
    private static final int MOST_LINES = 60;

    /** Of the library the program uses these names alone. */
    private static final Set<String> LIBRARY = Set.of("ArrayList", "Math", "IllegalArgumentException",
            "IllegalStateException", "IndexOutOfBoundsException", "add", "get", "size", "min", "max");

    /** What the program does without, though the rules allow some of it. */
    private static final String[] ABSENT = {"\\bcatch\\b", "\\btry\\b", "\\bfinally\\b", "->", "::",
        "\\bsynchronized\\b", "\\bassert\\b", "\\binstanceof\\b", "\\bpackage\\b", "\\bstatic \\{",
        "\\bSystem\\b", "\\bThread\\b", "\\bvar\\b", "Exact\\b", "^import (?!java\\.util\\.ArrayList;)",
        "\\bMath\\.(?!min\\(|max\\()", "\"\" *\\+", "\\+ *\"\"", "\\bfor \\([^;]*\\)",
        "\\bwhile\\b", "\\bnew \\w+\\[[^\\]]"};

    public static void main(String[] args) throws IOException {
        List<Class<?>> inside = List.of(HelpDesk.class.getDeclaredClasses());
        Check.same("rule 11: few classes", inside.size() < MOST_CLASSES, true);
        namesOfPrivateMethods();
        look(HelpDesk.class);
        for (Class<?> one : inside) {
            Check.same("rule 1: static " + one, Modifier.isStatic(one.getModifiers()), true);
            Check.same("rule 1: not public " + one,
                    (one.getModifiers() & (Modifier.PUBLIC | Modifier.PROTECTED)) == 0, true);
            look(one);
        }
        text(Files.readString(Path.of(FILE)));
        Check.finish("LanguageTest");
    }

    private static void namesOfPrivateMethods() {
        Set<String> open = new HashSet<>();
        for (Method method : HelpDesk.class.getMethods()) {
            open.add(method.getName());
        }
        for (Method method : HelpDesk.class.getDeclaredMethods()) {
            Check.same("rule 1: the name of " + method, Modifier.isPrivate(method.getModifiers())
                    && open.contains(method.getName()), false);
        }
    }

    private static void look(Class<?> one) {
        int fields = 0;
        for (Field field : one.getDeclaredFields()) {
            if (Modifier.isStatic(field.getModifiers())) {
                Check.same("rule 5: final " + field, Modifier.isFinal(field.getModifiers()), true);
            } else {
                fields++;
            }
        }
        Check.same("rule 11: few fields in " + one, fields <= MOST_FIELDS, true);
        for (Method method : one.getDeclaredMethods()) {
            Check.same("rule 11: few parameters of " + method,
                    method.getParameterCount() <= MOST_PARAMETERS, true);
        }
    }

    private static void text(String text) {
        String code = text.replaceAll("(?s)/\\*.*?\\*/", "").replaceAll("//[^\n]*", "")
                .replaceAll("\"[^\"\n]*\"", "\"\"");
        for (String absent : ABSENT) {
            Matcher found = Pattern.compile(absent, Pattern.MULTILINE).matcher(code);
            Check.same("no " + absent + " in the program", found.find(), false);
        }
        library(code);
        lengths(code);
    }

    /** Names of types, and of methods called behind a dot, that are not the program's own. */
    private static void library(String code) {
        Set<String> own = new HashSet<>();
        ownNames(HelpDesk.class, own);
        for (Class<?> one : HelpDesk.class.getDeclaredClasses()) {
            ownNames(one, own);
        }
        Matcher used = Pattern.compile("\\b([A-Z]\\w*)|\\.\\s*(\\w+)\\(").matcher(code);
        while (used.find()) {
            String name = used.group(1) == null ? used.group(2) : used.group(1);
            Check.same("rule 4: " + name, own.contains(name) || LIBRARY.contains(name), true);
        }
    }

    private static void ownNames(Class<?> one, Set<String> own) {
        own.add(one.getSimpleName());
        for (Method method : one.getDeclaredMethods()) {
            own.add(method.getName());
        }
        for (Field field : one.getDeclaredFields()) {
            if (Modifier.isStatic(field.getModifiers())) {
                own.add(field.getName());
            }
        }
    }

    /** A method's body ends where a line has its closing brace as far in as its first line begins. */
    private static void lengths(String code) {
        Matcher body = Pattern.compile("^( {4}| {8})\\w[^;{}]*\\)[^;{}]*\\{\n(.*?)^\\1\\}$",
                Pattern.MULTILINE | Pattern.DOTALL).matcher(code);
        int bodies = 0;
        while (body.find()) {
            bodies++;
            long lines = body.group(2).lines().count();
            Check.same("rule 11: length of " + body.group().lines().findFirst().get(),
                    lines <= MOST_LINES, true);
        }
        Check.same("bodies looked at", bodies >= HelpDesk.class.getDeclaredMethods().length, true);
    }
}
