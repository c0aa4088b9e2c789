import java.io.IOException;
import java.nio.file.Files;
import java.nio.file.Path;
import java.util.List;
import java.util.regex.Matcher;
import java.util.regex.Pattern;

/** The rules of the language that can be read off the program's text, each with its number. */
final class LanguageTest {
    private static final Path PROGRAM = Path.of("src/main/java/BindingKernel.java");
    private static final int LONGEST_METHOD = 65;

    private static final String[] FORBIDDEN_WORDS = {
        "package", "throw", "throws", "try", "catch", "finally", "synchronized", "assert", "yield", "volatile",
        "native", "hashCode", "Thread", "Random", "Object", "Exception", "var", "nanoTime", "currentTimeMillis"
    };
    private static final Pattern IMPORT = Pattern.compile("\\bimport\\s+([\\w.*]+)\\s*;");
    private static final List<String> IMPORTS = List.of(
        "java.util.ArrayList", "java.util.List", "java.util.Arrays", "java.util.Iterator");
    private static final Pattern LIBRARY_CALL = Pattern.compile("\\b(System|Arrays|Math|Integer|Long)\\.(\\w+)");
    private static final List<String> LIBRARY = List.of(
        "System.arraycopy", "Arrays.copyOf", "Arrays.copyOfRange", "Arrays.fill");
    private static final Pattern NUMBER_CALL = Pattern.compile("(Math|Integer|Long)\\."
        + "(?!\\w*Exact\\b|parse|valueOf|decode|getInteger|getLong|random|to\\w*String)\\w+");

    public static void main(String[] args) throws IOException {
        String text = Files.readString(PROGRAM);
        String code = text.replaceAll("(?s)/\\*.*?\\*/", "").replaceAll("//[^\n]*", "");
        for (String word : FORBIDDEN_WORDS) {
            Run.check("rules 4, 6, 13: no " + word, !Pattern.compile("\\b" + word + "\\b").matcher(code).find());
        }
        String withoutCases = code.replaceAll("\\b(case\\b[^;{}]*?|default\\s*)->", "");
        Run.check("rule 2: no lambda", !withoutCases.contains("->"));
        Run.check("rule 2: no method reference", !code.contains("::"));
        Run.check("rule 5: no static initialiser", !Pattern.compile("\\bstatic\\s*\\{").matcher(code).find());
        Run.check("rule 3: characters 0 to 255", text.chars().allMatch(c -> c < 256));
        libraryCalls(code);
        methodsAreShort(text);
        Run.end();
    }

    private static void libraryCalls(String code) {
        Matcher imports = IMPORT.matcher(code);
        while (imports.find()) {
            Run.check("rule 4: " + imports.group(), IMPORTS.contains(imports.group(1)));
        }
        Matcher calls = LIBRARY_CALL.matcher(code);
        while (calls.find()) {
            Run.check("rule 4: " + calls.group() + " is in the library",
                LIBRARY.contains(calls.group()) || NUMBER_CALL.matcher(calls.group()).matches());
        }
    }

    /** A member of a class begins with its modifiers' indent and ends with a brace at the same indent. */
    private static void methodsAreShort(String text) {
        String[] lines = text.split("\n");
        for (int i = 0; i < lines.length; i++) {
            String indent = lines[i].replaceAll("\\S.*", "");
            boolean isMethod = (indent.length() == 4 || indent.length() == 8)
                && lines[i].matches("\\s+[\\w\\[\\] ]+\\([^;]*\\) \\{")
                && !lines[i].matches("\\s+(if|for|while|switch)\\b.*");
            int end = i;
            while (isMethod && end < lines.length - 1 && !lines[end].equals(indent + "}")) {
                end++;
            }
            Run.check("rule 11: the method of line " + (i + 1) + " is short", end - i < LONGEST_METHOD);
        }
    }
}
