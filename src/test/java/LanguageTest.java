import java.io.IOException;
import java.nio.charset.StandardCharsets;
import java.nio.file.Files;
import java.nio.file.Path;
import java.util.List;
import java.util.regex.Pattern;

/** Rules of ../shared/LANGUAGE.md that can be read off the text of the class. The property "source" tells where it stands. */
public final class LanguageTest {
    private static final List<String> WORDS = List.of("package", "import", "throw", "throws", "try", "catch", "finally",
        "synchronized", "assert", "native", "volatile", "yield", "var", "System\\.(?!arraycopy\\b)\\w+", "\\w+Exact", "java",
        "Object", "Class", "Thread", "Exception", "Error", "RuntimeException");
    private static final List<String> SIGNS = List.of("->", "::", "@", "static \\{", "\\? extends", "\\? super");

    public static void main(String[] args) throws IOException {
        Path source = Path.of(System.getProperty("source", "src/main/java/CreditScroll.java"));
        String text = Files.readString(source, StandardCharsets.ISO_8859_1);
        int strange = 0;
        for (int i = 0; i < text.length(); i++) {
            strange += text.charAt(i) > 127 ? 1 : 0;
        }
        Due.is("4: signs above 127", strange, 0);
        String code = code(text);
        for (String word : WORDS) {
            Due.is("6, 13: " + word, Pattern.compile("\\b" + word + "\\b").matcher(code).results().count(), 0);
        }
        for (String sign : SIGNS) {
            Due.is("2, 5: " + sign, Pattern.compile(sign).matcher(code).results().count(), 0);
        }
        Due.is("1: public classes", Pattern.compile("\\bpublic final class\\b").matcher(code).results().count(), 1);
        Due.end("LanguageTest");
    }

    /** The text without comments, and without what stands in quotes. */
    private static String code(String text) {
        String comment = "/\\*.*?\\*/|//[^\\n]*";
        String quoted = "\"(?:\\\\.|[^\"\\\\])*\"|'(?:\\\\.|[^'\\\\])*'";
        return Pattern.compile(quoted + "|" + comment, Pattern.DOTALL).matcher(text).replaceAll(" ");
    }
}
