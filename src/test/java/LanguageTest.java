import java.io.IOException;
import java.nio.file.Files;
import java.nio.file.Path;
import java.util.Set;
import java.util.regex.Matcher;
import java.util.regex.Pattern;

/** What a reading of the source's words can tell of LANGUAGE.md's rules; the face is FaceTest's. */
public final class LanguageTest {
    /** The document names no exception, and the class needs nothing of the library but one function. */
    private static final String[] WORDS_LEFT_OUT = {"package", "import", "throw", "throws", "try", "catch", "finally",
        "synchronized", "assert", "volatile", "native", "strictfp", "instanceof", "null", "double", "float",
        "Object", "System", "Thread", "Random", "String", "List", "ArrayList", "Exact"};
    private static final Set<String> LIBRARY = Set.of("Integer.bitCount");

    private static final int MOST_LINES = 60;
    private static final int MOST_PARAMETERS = 7;
    private static final int MOST_FIELDS = 20;

    private static final Checks CHECKS = new Checks();

    public static void main(String[] args) throws IOException {
        String source = Files.readString(Path.of("src/main/java/CodeBlocks.java"));
        // Rule 3 leaves characters 0 to 255 alone; plain ones need no thought on the file's encoding.
        CHECKS.due("characters above 127", source.chars().filter(c -> c > 127).count(), 0L);
        String code = withoutComments(source);
        for (String word : WORDS_LEFT_OUT) {
            CHECKS.due("how often it has the word " + word, found(code, "\\b" + word + "\\b"), 0L);
        }
        CHECKS.due("lambdas and method references", found(code, "->|::"), 0L);
        CHECKS.due("classes", found(code, "\\b(class|interface|enum|record)\\b"), 1L);
        CHECKS.due("static initialiser blocks", found(code, "\\bstatic\\s*\\{"), 0L);
        CHECKS.due("loops whose end is no counter", found(code, "\\b(while|do)\\b"), 0L);
        CHECKS.due("arrays made outside the constructor", found(withoutConstructor(code), "\\bnew\\b"), 0L);
        libraryCalls(code);
        methods(code);
        long fields = found(code, "(?m)^    private (final )?[a-z]+(\\[\\])? \\w+;");
        CHECKS.due("fields: " + fields, fields > 0 && fields <= MOST_FIELDS, true);
        CHECKS.end();
    }

    private static String withoutComments(String source) {
        return source.replaceAll("(?s)/\\*.*?\\*/", " ").replaceAll("//[^\n]*", "");
    }

    private static String withoutConstructor(String code) {
        return code.replaceFirst("(?s)    public CodeBlocks\\(\\) \\{.*?\n    \\}\n", "");
    }

    private static long found(String code, String pattern) {
        return Pattern.compile(pattern).matcher(code).results().count();
    }

    private static void libraryCalls(String code) {
        Matcher calls = Pattern.compile("\\b[A-Z][a-z]\\w*\\.\\w+").matcher(code);
        while (calls.find()) {
            CHECKS.due("the library's " + calls.group(), LIBRARY.contains(calls.group()), true);
        }
    }

    private static void methods(String code) {
        Matcher methods = Pattern.compile("(?ms)^    (?:public|private)[^;={(]*\\b(\\w+)\\(([^)]*)\\) \\{.*?^    \\}")
                .matcher(code);
        int seen = 0;
        while (methods.find()) {
            seen++;
            long lines = methods.group().lines().count();
            CHECKS.due(methods.group(1) + " is short", lines <= MOST_LINES, true);
            int parameters = methods.group(2).isBlank() ? 0 : methods.group(2).split(",").length;
            CHECKS.due(methods.group(1) + " takes few", parameters <= MOST_PARAMETERS, true);
        }
        // So that a method that the pattern does not see is no method that passed.
        int declared = CodeBlocks.class.getDeclaredMethods().length + 1;
        CHECKS.due("methods looked at", seen, declared);
    }
}
