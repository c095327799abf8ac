import java.io.IOException;
import java.nio.charset.StandardCharsets;
import java.nio.file.Files;
import java.nio.file.Path;
import java.util.regex.Matcher;
import java.util.regex.Pattern;

/** Rules of ../shared/LANGUAGE.md that can be seen in the text of the class; it runs from the project's folder. */
public final class LanguageTest {
    private static final String[] NO_WORDS = {
        "throw", "throws", "try", "catch", "finally", "synchronized", "assert", "import", "package", "native", "volatile",
        "transient", "instanceof", "Thread", "Object", "Exception", "double", "float", "null", "hashCode", "toString",
        "goto", "var", "yield", "record", "enum"
    };
    private static final String[] NAMES = {
        "read", "copy", "apply", "bind", "step", "run", "of", "part", "named", "same", "count", "ends", "agree", "most", "alike",
        "put", "wipe", "fault", "undo", "save", "restore"
    };

    public static void main(String[] args) throws IOException {
        Check check = new Check("LanguageTest");
        String file = Files.readString(Path.of("src/main/java/CountedTerms.java"), StandardCharsets.UTF_8);
        check.due("signs that are not plain", count("[^\\x20-\\x7E\\n]", file), 0);
        String code = withoutCommentsAndSigns(file);
        for (String word : NO_WORDS) {
            check.due("the word " + word, count("\\b" + word + "\\b", code), 0);
        }
        for (String name : NAMES) {
            check.due("methods with the name " + name, count("(?:int|void|boolean|long) " + name + "\\(", code), 1);
        }
        check.due("lambdas and method references", count("->|::", code), 0);
        check.due("texts", count("\"", code), 0);
        check.due("top classes", count("(?m)^public final class CountedTerms \\{", code), 1);
        check.due("at most 12 classes", count("\\bclass\\b", code) <= 12 ? 1 : 0, 1);
        check.due("classes that are not static", count("(?m)^    (?!static final class|private static final class).*\\bclass\\b", code), 0);
        check.due("static fields that are not final", count("static (?!final)[\\w\\[\\]]+ \\w+( =|;)", code), 0);
        check.due("more than seven parameters", count("\\((?:int|long) \\w+(?:, (?:int|long) \\w+){7}", code), 0);
        check.due("places where an array is used", count("numbers\\[", code), 2);
        check.due("uses of System", count("System", code), count("System\\.arraycopy\\(numbers, ", code));
        check.due("rows made by the constructors alone", count("new int\\[", code), 1);
        check.due("the longest method", longestMethod(code) <= 60 ? 1 : longestMethod(code), 1);
        check.finish();
    }

    private static int count(String pattern, String text) {
        Matcher matcher = Pattern.compile(pattern).matcher(text);
        int found = 0;
        while (matcher.find()) {
            found++;
        }
        return found;
    }

    private static String withoutCommentsAndSigns(String file) {
        return file.replaceAll("(?s)/\\*.*?\\*/", "").replaceAll("//[^\n]*", "").replaceAll("'.'", "' '");
    }

    /** A method ends at the brace that stands below its first letter. */
    private static int longestMethod(String code) {
        String[] lines = code.split("\n");
        int longest = 0;
        int methods = 0;
        for (int from = 0; from < lines.length; from++) {
            if (lines[from].matches("( {4}| {8})[A-Za-z][^;]*\\(.*\\) \\{")) {
                String end = lines[from].replaceAll("[A-Za-z].*", "}");
                int to = from;
                while (to < lines.length - 1 && !lines[to].equals(end)) {
                    to++;
                }
                longest = Math.max(longest, to - from + 1);
                methods++;
            }
        }
        return methods > 50 ? longest : 1000;
    }
}
