import java.lang.reflect.Field;
import java.lang.reflect.Method;
import java.lang.reflect.Modifier;
import java.nio.charset.StandardCharsets;
import java.nio.file.Files;
import java.nio.file.Path;
import java.util.Arrays;
import java.util.Set;
import java.util.TreeSet;
import java.util.regex.Matcher;
import java.util.regex.Pattern;

/** The face of the document, and those rules of LANGUAGE.md that can be seen in the text or by reflection. */
public final class FaceTest {
    private static final String[] FACE = {
        "int feed(int, int, int, int, int)", "boolean end(int)", "int paragraph(int)", "int word(int)", "int clear()",
        "boolean page(int, int, int, int)", "int lines(int, int)", "int fill(int)", "int set(int, int)",
        "int line(int, int)", "int fact(int, int)", "int fault(int)", "boolean strike(int, int)",
        "int quarrel(int, int)", "int quarrels(int)", "int found(int, int)", "int mend(int)", "int agree(int)",
        "int agreed(int)", "long share(int)", "boolean start(int)", "int came(int, int)", "int due(int)",
        "boolean prices(int, int, int, int)", "boolean keep(int, int, boolean)", "int print(int, int, int)",
        "int sell(int, int, int)", "int pulp(int, int)", "int stock(int, int, int)",
        "int volume(int, int, int, int)", "int foretell(int, int)", "int best(int, int)",
        "long worth(int, int, int)", "long purse()",
    };
    private static final String BANNED =
        "\\b(throw|throws|try|catch|synchronized|assert|Object|Exception|Error|System\\.(?!arraycopy)\\w+"
        + "|\\w+Exact|hashCode|toString|Random|Thread|package|protected|HashMap|Map|var|->|::)\\b|->|::";

    public static void main(String[] args) throws Exception {
        members();
        nestedClasses();
        text();
        Due.finish();
    }

    private static void members() {
        Set<String> found = new TreeSet<>();
        Set<String> names = new TreeSet<>();
        for (Method method : TaleHouse.class.getDeclaredMethods()) {
            if (Modifier.isPublic(method.getModifiers())) {
                found.add(written(method));
                names.add(method.getName());
            } else {
                Due.yes(method + " is private", Modifier.isPrivate(method.getModifiers()));
            }
        }
        Due.yes("the methods of the face: " + found, found.equals(new TreeSet<>(Arrays.asList(FACE))));
        for (Method method : TaleHouse.class.getDeclaredMethods()) {
            boolean open = Modifier.isPublic(method.getModifiers());
            Due.yes(method + " bears no public name", open || !names.contains(method.getName()));
        }
        for (Field field : TaleHouse.class.getDeclaredFields()) {
            boolean constant = field.getName().equals("NONE");
            Due.yes(field + " as it must be", constant == Modifier.isPublic(field.getModifiers())
                && (constant || Modifier.isPrivate(field.getModifiers())));
            Due.yes(field + " is final", Modifier.isFinal(field.getModifiers()));
        }
        Due.is("constructors", TaleHouse.class.getDeclaredConstructors().length, 1);
        Due.yes("the class is public and final", Modifier.isPublic(TaleHouse.class.getModifiers())
            && Modifier.isFinal(TaleHouse.class.getModifiers()));
    }

    private static String written(Method method) {
        StringBuilder text = new StringBuilder();
        for (Class<?> type : method.getParameterTypes()) {
            text.append(text.length() == 0 ? "" : ", ").append(type.getName());
        }
        return method.getReturnType().getName() + " " + method.getName() + "(" + text + ")";
    }

    private static void nestedClasses() {
        Class<?>[] nested = TaleHouse.class.getDeclaredClasses();
        Due.yes("at most twelve classes", nested.length + 1 <= 12);
        for (Class<?> inside : nested) {
            Due.yes(inside + " is static", Modifier.isStatic(inside.getModifiers()));
            int fields = 0;
            for (Field field : inside.getDeclaredFields()) {
                boolean constant = Modifier.isStatic(field.getModifiers());
                Due.yes(field + ": static fields are final", !constant || Modifier.isFinal(field.getModifiers()));
                fields += constant ? 0 : 1;
            }
            Due.yes(inside + " has at most twenty fields", fields <= 20);
            for (Method method : inside.getDeclaredMethods()) {
                Due.yes(method + " takes at most seven", method.getParameterCount() <= 7);
                Due.no(method + " bears a public name", faceHas(method.getName()));
            }
        }
    }

    private static boolean faceHas(String name) {
        return Arrays.stream(FACE).anyMatch(call -> call.contains(" " + name + "("));
    }

    private static void text() throws Exception {
        String source = Files.readString(Path.of("src/main/java/TaleHouse.java"), StandardCharsets.ISO_8859_1);
        String code = source.replaceAll("(?s)/\\*.*?\\*/", "").replaceAll("//[^\\n]*", "");
        Matcher banned = Pattern.compile(BANNED).matcher(code);
        while (banned.find()) {
            Due.yes("the language has no '" + banned.group() + "'", false);
        }
        Matcher imported = Pattern.compile("import ([^;]*);").matcher(code);
        while (imported.find()) {
            Due.yes("import " + imported.group(1), imported.group(1).equals("java.util.Arrays"));
        }
    }
}
