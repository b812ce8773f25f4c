import java.io.IOException;
import java.lang.reflect.Field;
import java.lang.reflect.Method;
import java.lang.reflect.Modifier;
import java.nio.charset.StandardCharsets;
import java.nio.file.Files;
import java.nio.file.Path;
import java.util.ArrayList;
import java.util.List;
import java.util.regex.Matcher;
import java.util.regex.Pattern;

/** README.md tells of every call and every constant, and its example answers what it says. The property "readme" tells where it stands. */
public final class ReadmeTest {
    private static final Pattern EXAMPLE = Pattern.compile("credits\\.(\\w+\\(.*\\)); +// (\\w+|-\\d+): ");
    private static final Pattern CALL = Pattern.compile("\\| `(\\w+)\\(([^)]*)\\)` \\|");

    public static void main(String[] args) throws IOException {
        String text = Files.readString(Path.of(System.getProperty("readme", "README.md")), StandardCharsets.UTF_8);
        example(text);
        calls(text);
        constants(text);
        Due.end("ReadmeTest");
    }

    private static void example(String text) {
        List<String> calls = new ArrayList<>();
        Matcher example = EXAMPLE.matcher(text);
        while (example.find()) {
            calls.add(example.group(1).replace("CreditScroll.", "") + " = " + example.group(2));
        }
        Due.is("README: all rows of the example", calls.size(), text.split("credits\\.\\w+\\(").length - 1);
        Run.due("README", calls.toArray(new String[0]));
    }

    private static void calls(String text) {
        List<String> told = new ArrayList<>();
        Matcher call = CALL.matcher(text);
        while (call.find()) {
            told.add(call.group(1) + "/" + (call.group(2).isEmpty() ? 0 : call.group(2).split(",").length));
        }
        int methods = 0;
        for (Method method : CreditScroll.class.getDeclaredMethods()) {
            if (Modifier.isPublic(method.getModifiers())) {
                String name = method.getName() + "/" + method.getParameterCount();
                Due.is("README: tells of " + name, told.contains(name) ? 1 : 0, 1);
                methods++;
            }
        }
        Due.is("README: tells of no other call", told.size(), methods);
    }

    private static void constants(String text) {
        for (Field field : CreditScroll.class.getFields()) {
            Due.is("README: tells of " + field.getName(), text.contains("`" + field.getName() + "`") ? 1 : 0, 1);
        }
    }
}
