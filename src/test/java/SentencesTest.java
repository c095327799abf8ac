import java.io.IOException;
import java.nio.charset.StandardCharsets;
import java.nio.file.Files;
import java.nio.file.Path;
import java.util.List;
import java.util.Map;
import java.util.TreeMap;
import java.util.regex.Matcher;
import java.util.regex.Pattern;
import java.util.stream.Collectors;
import java.util.stream.Stream;

/** Each sentence that a test names stands in the document, in the section that it names, and each section has a test. */
public final class SentencesTest {
    private static final Pattern NAMED = Pattern.compile("CHECK\\.sentence\\((.*)\\);");
    private static final Pattern QUOTED = Pattern.compile("\"((?:[^\"\\\\]|\\\\.)*)\", \"((?:[^\"\\\\]|\\\\.)*)\"");

    public static void main(String[] args) throws IOException {
        Check check = new Check("SentencesTest");
        Map<String, String> sections = sections(text(Path.of("../shared/DOC.md")));
        Map<String, Integer> found = new TreeMap<>();
        for (Path test : tests()) {
            Matcher named = NAMED.matcher(text(test));
            while (named.find()) {
                Matcher quoted = QUOTED.matcher(named.group(1));
                if (!quoted.matches()) {
                    check.due("a section and its words in " + test, named.group(1), "two texts");
                    continue;
                }
                String words = quoted.group(2).replace("\\\"", "\"");
                boolean stands = sections.getOrDefault(quoted.group(1), "").contains(words);
                check.due("in the document, " + quoted.group(1) + ": " + words, stands ? 1 : 0, 1);
                found.merge(quoted.group(1), 1, Integer::sum);
            }
        }
        check.due("a test for the terms", found.containsKey("Terms") ? 1 : 0, 1);
        for (int promise = 1; promise <= 22; promise++) {
            check.due("a test for promise " + promise, found.containsKey("Promise " + promise) ? 1 : 0, 1);
        }
        check.finish();
    }

    private static String text(Path file) throws IOException {
        return Files.readString(file, StandardCharsets.UTF_8);
    }

    private static List<Path> tests() throws IOException {
        try (Stream<Path> files = Files.list(Path.of("src/test/java"))) {
            return files.filter(file -> file.toString().endsWith("LimitsTest.java") || file.endsWith("RefusalsTest.java"))
                .sorted().collect(Collectors.toList());
        }
    }

    /** The sections by their names; that of a promise is its number without its title. */
    private static Map<String, String> sections(String document) {
        Map<String, String> sections = new TreeMap<>();
        for (String section : document.split("(?m)^## ")) {
            int end = section.indexOf('\n');
            if (end > 0) {
                sections.put(section.substring(0, end).replaceAll(":.*", ""), section.substring(end));
            }
        }
        return sections;
    }
}
