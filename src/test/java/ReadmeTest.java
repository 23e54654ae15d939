import java.io.IOException;
import java.lang.reflect.Field;
import java.lang.reflect.Method;
import java.lang.reflect.Modifier;
import java.nio.file.DirectoryStream;
import java.nio.file.Files;
import java.nio.file.Path;
import java.util.regex.Matcher;
import java.util.regex.Pattern;

/** README.md says how to use the class: what it says of the calls, the constants and the test programs is so. */
public final class ReadmeTest {
    private static final Pattern CALL = Pattern.compile("k\\.(\\w+)\\((.*)\\);\\s+// (-?\\w+).*");

    private ReadmeTest() {
    }

    public static void main(String[] args) throws ReflectiveOperationException, IOException {
        String page = Files.readString(Path.of("README.md"));
        theRunAnswersWhatItsCommentsSay(page);
        everyCallAndConstantIsNamed(page);
        everyTestProgramIsNamed(page);
        Check.end();
    }

    private static void theRunAnswersWhatItsCommentsSay(String page) throws ReflectiveOperationException {
        LabelKernel kernel = new LabelKernel();
        int calls = 0;
        for (String line : page.split("\n")) {
            Matcher call = CALL.matcher(line);
            if (call.matches()) {
                Check.due("README: " + line, answer(kernel, call.group(1), call.group(2)), number(call.group(3)));
                calls++;
            }
        }
        Check.due("how many calls README's run has", calls, page.split("\nk\\.", -1).length - 1);
        Check.holds("README has a run", calls > 0);
    }

    private static int answer(LabelKernel kernel, String name, String list) throws ReflectiveOperationException {
        String[] words = list.split(", ");
        Object[] values = new Object[words.length];
        for (int i = 0; i < words.length; i++) {
            values[i] = number(words[i]);
        }
        for (Method method : LabelKernel.class.getDeclaredMethods()) {
            if (method.getName().equals(name) && method.getParameterCount() == values.length) {
                return (Integer) method.invoke(kernel, values);
            }
        }
        throw new NoSuchMethodException(name + "(" + list + ")");
    }

    /** A number, a set of one tag (1 << 0), or a constant of the class. */
    private static int number(String word) throws ReflectiveOperationException {
        if (word.startsWith("1 << ")) {
            return 1 << Integer.parseInt(word.substring(5));
        }
        if (Character.isUpperCase(word.charAt(0))) {
            return LabelKernel.class.getField(word).getInt(null);
        }
        return Integer.parseInt(word);
    }

    private static void everyCallAndConstantIsNamed(String page) {
        for (Method method : LabelKernel.class.getDeclaredMethods()) {
            if (Modifier.isPublic(method.getModifiers())) {
                Matcher row = Pattern.compile("\\| `" + method.getName() + "\\(([^)]*)\\)` \\|").matcher(page);
                Check.holds("README's table has " + method.getName(),
                    row.find() && row.group(1).split(", ").length == method.getParameterCount());
            }
        }
        for (Field field : LabelKernel.class.getFields()) {
            Check.holds("README names " + field.getName(), page.contains("`" + field.getName() + "`"));
        }
    }

    private static void everyTestProgramIsNamed(String page) throws IOException {
        try (DirectoryStream<Path> programs = Files.newDirectoryStream(Path.of("src/test/java"), "*Test.java")) {
            for (Path program : programs) {
                String name = program.getFileName().toString().replace(".java", "");
                Check.holds("README names " + name, page.contains("| `" + name + "` |"));
            }
        }
    }
}
