import java.io.IOException;
import java.lang.reflect.Field;
import java.lang.reflect.Method;
import java.lang.reflect.Modifier;
import java.nio.charset.StandardCharsets;
import java.nio.file.Files;
import java.nio.file.Path;
import java.util.List;
import java.util.regex.Pattern;

/** Rules of ../shared/LANGUAGE.md that can be read off the class and its text. The property "source" tells where that stands. */
public final class LanguageTest {
    private static final List<String> WORDS = List.of("package", "import", "throw", "throws", "try", "catch", "finally",
        "synchronized", "assert", "native", "volatile", "yield", "var", "System\\.(?!arraycopy\\b)\\w+", "\\w+Exact", "java",
        "Object", "Class", "Thread", "Exception", "Error", "RuntimeException");
    private static final List<String> SIGNS = List.of("->", "::", "@", "static \\{", "\\? extends", "\\? super");

    public static void main(String[] args) throws IOException {
        Path source = Path.of(System.getProperty("source", "src/main/java/CreditScroll.java"));
        String text = Files.readString(source, StandardCharsets.ISO_8859_1);
        int strange = 0;
        for (int i = 0; i < text.length(); i++) {
            strange += text.charAt(i) > 127 ? 1 : 0;
        }
        Due.is("4: signs above 127", strange, 0);
        String code = code(text);
        for (String word : WORDS) {
            Due.is("6, 13: " + word, Pattern.compile("\\b" + word + "\\b").matcher(code).results().count(), 0);
        }
        for (String sign : SIGNS) {
            Due.is("2, 5: " + sign, Pattern.compile(sign).matcher(code).results().count(), 0);
        }
        Due.is("1: public classes", Pattern.compile("\\bpublic final class\\b").matcher(code).results().count(), 1);
        // An object that is made without arguments gets nothing of the one in whose constructor it is made.
        Due.is("12: arguments of constructors", Pattern.compile("\\bnew \\w+\\([^)]").matcher(code).results().count(), 0);
        sizes();
        Due.end("LanguageTest");
    }

    private static void sizes() {
        Class<?>[] inside = CreditScroll.class.getDeclaredClasses();
        Due.is("11: some twelve classes", inside.length < 12 ? 1 : 0, 1);
        size(CreditScroll.class);
        for (Class<?> one : inside) {
            size(one);
        }
    }

    private static void size(Class<?> one) {
        int fields = 0;
        for (Field field : one.getDeclaredFields()) {
            fields += Modifier.isStatic(field.getModifiers()) ? 0 : 1;
        }
        Due.is("11: some twenty fields: " + one.getName(), fields <= 20 ? 1 : 0, 1);
        for (Method method : one.getDeclaredMethods()) {
            Due.is("11: at most seven parameters: " + method.getName(), method.getParameterCount() <= 7 ? 1 : 0, 1);
        }
    }

    /** The text without comments, and without what stands in quotes. */
    private static String code(String text) {
        String comment = "/\\*.*?\\*/|//[^\\n]*";
        String quoted = "\"(?:\\\\.|[^\"\\\\])*\"|'(?:\\\\.|[^'\\\\])*'";
        return Pattern.compile(quoted + "|" + comment, Pattern.DOTALL).matcher(text).replaceAll(" ");
    }
}
