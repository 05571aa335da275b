import java.io.ByteArrayOutputStream;
import java.io.IOException;
import java.io.PrintStream;
import java.lang.reflect.Method;
import java.lang.reflect.Modifier;
import java.net.URL;
import java.net.URLClassLoader;
import java.nio.file.Files;
import java.nio.file.Path;
import java.util.ArrayList;
import java.util.List;
import java.util.TreeSet;
import java.util.regex.Matcher;
import java.util.regex.Pattern;
import java.util.stream.Stream;
import javax.tools.ToolProvider;

/** What README.md says about the class and its tests is so. */
public final class ReadmeTest {
    private static final String README = "README.md";
    private static final String TESTS = "src/test/java";
    private static final Pattern PROGRAM = Pattern.compile("```java\n(.*?)```", Pattern.DOTALL);

    public static void main(String[] args) throws Exception {
        String page = Files.readString(Path.of(README)).replace("\r\n", "\n");
        String program = program(page);
        List<String> due = told(program);
        List<String> got = printed(program);
        Check.same("lines that the example prints", got.size(), due.size());
        for (int i = 0; i < Math.min(got.size(), due.size()); i++) {
            Check.same("line " + i + " of the example is " + got.get(i) + ", the page tells "
                    + due.get(i) + ":", got.get(i).equals(due.get(i)), true);
        }
        theCalls(page.replace(program, ""));
        theTests(page);
        Check.finish("ReadmeTest");
    }

    private static String program(String page) {
        Matcher found = PROGRAM.matcher(page);
        return found.find() ? found.group(1) : "";
    }

    /** Behind a line that prints stands what it prints, up to a colon. */
    private static List<String> told(String program) {
        List<String> told = new ArrayList<>();
        for (String line : program.split("\n")) {
            if (line.contains("System.out.println(")) {
                told.add(line.replaceAll(".*// ", "").replaceAll(":.*", ""));
            }
        }
        return told;
    }

    private static List<String> printed(String program) throws Exception {
        Path directory = Files.createTempDirectory("example");
        Path source = directory.resolve("Example.java");
        try {
            Files.writeString(source, program);
            int failed = ToolProvider.getSystemJavaCompiler().run(null, null, null,
                    "-cp", System.getProperty("java.class.path"), "-d", directory.toString(),
                    source.toString());
            Check.same("exit code of compiling the example", failed, 0);
            return failed == 0 ? run(directory) : List.of();
        } finally {
            Files.deleteIfExists(directory.resolve("Example.class"));
            Files.deleteIfExists(source);
            Files.deleteIfExists(directory);
        }
    }

    private static List<String> run(Path directory) throws Exception {
        PrintStream before = System.out;
        ByteArrayOutputStream printed = new ByteArrayOutputStream();
        URL[] places = {directory.toUri().toURL()};
        try (URLClassLoader loader = new URLClassLoader(places)) {
            System.setOut(new PrintStream(printed, true));
            loader.loadClass("Example").getMethod("main", String[].class)
                    .invoke(null, (Object) new String[0]);
        } finally {
            System.setOut(before);
        }
        return printed.toString().lines().toList();
    }

    private static void theCalls(String page) {
        TreeSet<String> due = new TreeSet<>();
        for (Method method : HelpDesk.class.getDeclaredMethods()) {
            if (Modifier.isPublic(method.getModifiers())) {
                due.add(method.getName() + " with " + method.getParameterCount());
            }
        }
        TreeSet<String> got = new TreeSet<>();
        Matcher call = Pattern.compile("`(\\w+)\\((.*?)\\)`").matcher(page);
        while (call.find()) {
            int parameters = call.group(2).isEmpty() ? 0 : call.group(2).split(",").length;
            got.add(call.group(1) + " with " + parameters);
        }
        Check.same("the page tells the calls " + got + ", there are " + due + ":", got.equals(due), true);
    }

    private static void theTests(String page) throws IOException {
        TreeSet<String> due = new TreeSet<>();
        try (Stream<Path> files = Files.list(Path.of(TESTS))) {
            files.forEach(file -> due.add(file.getFileName().toString().replace(".java", "")));
        }
        TreeSet<String> got = new TreeSet<>();
        Matcher name = Pattern.compile("`([A-Z]\\w+)`").matcher(page);
        while (name.find()) {
            got.add(name.group(1));
        }
        Check.same("the page tells the files " + got + ", there are " + due + ":", got.equals(due), true);
    }
}
