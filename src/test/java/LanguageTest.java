import java.io.IOException;
import java.nio.file.Files;
import java.nio.file.Path;
import java.util.List;
import java.util.regex.Matcher;
import java.util.regex.Pattern;

/** The rules of the language that can be read off the program's text. */
final class LanguageTest {
    private static final Path PROGRAM = Path.of("src/main/java/BindingKernel.java");
    private static final int LONGEST_METHOD = 60;

    private static final String[] FORBIDDEN_WORDS = {
        "package", "import", "throw", "throws", "try", "catch", "finally", "synchronized", "assert",
        "yield", "volatile", "native", "hashCode", "Thread", "Random", "Object", "Exception", "var"
    };
    private static final Pattern LIBRARY_CALL = Pattern.compile("\\b(System|Arrays|Math|Integer|Long)\\.(\\w+)");
    private static final List<String> LIBRARY_USED = List.of(
        "System.arraycopy", "Math.max", "Math.min", "Math.floorDiv", "Math.floorMod");

    public static void main(String[] args) throws IOException {
        String text = Files.readString(PROGRAM);
        String code = text.replaceAll("(?s)/\\*.*?\\*/", "").replaceAll("//[^\n]*", "");
        for (String word : FORBIDDEN_WORDS) {
            Run.check("no " + word, !Pattern.compile("\\b" + word + "\\b").matcher(code).find());
        }
        Run.check("no lambda", !code.contains("->"));
        Run.check("no method reference", !code.contains("::"));
        Run.check("no annotation", !code.contains("@"));
        Run.check("no static initialiser", !Pattern.compile("\\bstatic\\s*\\{").matcher(code).find());
        Run.check("no text", code.indexOf('"') < 0);
        Run.check("only the characters of ASCII", text.chars().allMatch(c -> c < 128));
        libraryCalls(code);
        methodsAreShort(text);
        Run.end();
    }

    private static void libraryCalls(String code) {
        Matcher calls = LIBRARY_CALL.matcher(code);
        while (calls.find()) {
            Run.check(calls.group() + " is in the library", LIBRARY_USED.contains(calls.group()));
        }
    }

    /** A member of a class begins with its modifiers' indent and ends with a brace at the same indent. */
    private static void methodsAreShort(String text) {
        String[] lines = text.split("\n");
        for (int i = 0; i < lines.length; i++) {
            String indent = lines[i].replaceAll("\\S.*", "");
            boolean isMethod = (indent.length() == 4 || indent.length() == 8)
                && lines[i].matches("\\s+[\\w\\[\\] ]+\\([^;]*\\) \\{") && !lines[i].matches("\\s+(if|for|while|switch)\\b.*");
            int end = i;
            while (isMethod && !lines[end].equals(indent + "}")) {
                end++;
            }
            Run.check("the method of line " + (i + 1) + " is short", end - i < LONGEST_METHOD);
        }
    }
}
