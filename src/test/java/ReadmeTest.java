import java.io.ByteArrayOutputStream;
import java.io.File;
import java.io.PrintStream;
import java.lang.reflect.Method;
import java.lang.reflect.Modifier;
import java.net.URL;
import java.net.URLClassLoader;
import java.nio.charset.StandardCharsets;
import java.nio.file.Files;
import java.nio.file.Path;
import java.util.Set;
import java.util.TreeSet;
import java.util.regex.Matcher;
import java.util.regex.Pattern;
import javax.tools.JavaCompiler;
import javax.tools.ToolProvider;

/** What README.md says is true: its program prints what it tells, and its tables name all that there is. */
public final class ReadmeTest {
    private static final Path FOLDER = Path.of("build", "readme");

    public static void main(String[] args) throws Exception {
        String readme = Files.readString(Path.of("README.md"), StandardCharsets.UTF_8);
        example(readme);
        calls(readme);
        classes(readme);
        tests(readme);
        Due.yes(".ci/run can be run", Files.isExecutable(Path.of(".ci", "run")));
        Due.finish();
    }

    private static void example(String readme) throws Exception {
        String code = between(readme, "```java\n", "```");
        Files.createDirectories(FOLDER);
        Path file = FOLDER.resolve("Example.java");
        Files.writeString(file, code);
        JavaCompiler compiler = ToolProvider.getSystemJavaCompiler();
        String classPath = System.getProperty("java.class.path");
        Due.is("javac of the example",
            compiler.run(null, null, null, "-cp", classPath, "-d", FOLDER.toString(), file.toString()), 0);
        String[] printed = printed().split("\\R");
        Matcher told = Pattern.compile("println\\((.*)\\); +// (\\S+)").matcher(code);
        int row = 0;
        while (told.find()) {
            String got = row < printed.length ? printed[row] : "nothing";
            Due.yes(told.group(1) + " printed " + got + ", told is " + told.group(2), got.equals(told.group(2)));
            row++;
        }
        Due.is("rows printed", printed.length, row);
        Due.is("answers told", row, code.split("println").length - 1);
    }

    private static String printed() throws Exception {
        ByteArrayOutputStream bytes = new ByteArrayOutputStream();
        PrintStream before = System.out;
        try (URLClassLoader loader = new URLClassLoader(new URL[] {FOLDER.toUri().toURL()})) {
            Method main = loader.loadClass("Example").getMethod("main", String[].class);
            System.setOut(new PrintStream(bytes, true));
            main.invoke(null, (Object) new String[0]);
        } finally {
            System.setOut(before);
        }
        return bytes.toString();
    }

    private static void calls(String readme) {
        Set<String> open = new TreeSet<>();
        for (Method method : TaleHouse.class.getDeclaredMethods()) {
            if (Modifier.isPublic(method.getModifiers())) {
                open.add(method.getName());
            }
        }
        same("calls", namedIn(readme, "| calls | for |"), open);
    }

    private static void classes(String readme) {
        Set<String> inside = new TreeSet<>();
        for (Class<?> nested : TaleHouse.class.getDeclaredClasses()) {
            inside.add(nested.getSimpleName());
        }
        same("classes", namedIn(readme, "| class | holds |"), inside);
    }

    private static void tests(String readme) {
        Set<String> files = new TreeSet<>();
        for (String name : new File("src/test/java").list()) {
            if (name.endsWith("Test.java")) {
                files.add(name.substring(0, name.length() - ".java".length()));
            }
        }
        same("tests", namedIn(readme, "| test | looks at |"), files);
    }

    private static void same(String what, Set<String> told, Set<String> are) {
        Due.yes("the " + what + " told are " + told + ", there are " + are, told.equals(are));
    }

    /** The names in the first column of a table. */
    private static Set<String> namedIn(String readme, String head) {
        Set<String> names = new TreeSet<>();
        String table = between(readme, head + "\n|---|---|\n", "\n\n");
        for (String row : table.split("\n")) {
            Matcher name = Pattern.compile("`(\\w+)`").matcher(row.split("\\|")[1]);
            while (name.find()) {
                names.add(name.group(1));
            }
        }
        return names;
    }

    private static String between(String text, String head, String tail) {
        int from = text.indexOf(head);
        Due.yes("README.md has: " + head.trim(), from >= 0);
        int start = Math.max(0, from) + head.length();
        int to = text.indexOf(tail, start);
        return to < 0 ? "" : text.substring(start, to);
    }
}
