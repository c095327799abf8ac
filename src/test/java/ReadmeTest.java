import java.io.IOException;
import java.lang.reflect.Method;
import java.nio.charset.StandardCharsets;
import java.nio.file.Files;
import java.nio.file.Path;
import java.util.Set;
import java.util.TreeSet;
import java.util.regex.Matcher;
import java.util.regex.Pattern;

/** Each call in README.md has the answer that stands behind it; it runs from the project's folder. */
public final class ReadmeTest {
    private static final String NEW = "CountedTerms x = new CountedTerms();";
    private static final Pattern BLOCK = Pattern.compile("(?ms)^```java\n(.*?)^```$");
    private static final Pattern CALL = Pattern.compile("x\\.(\\w+)\\((.*)\\); +// (-?\\d+)(: .*)?");
    private static final int METHODS = 21;

    private final Check check = new Check("ReadmeTest");
    private final Set<String> methods = new TreeSet<>();
    private int helpers;

    public static void main(String[] args) throws ReflectiveOperationException, IOException {
        new ReadmeTest().compareAll();
    }

    private static String text(String file) throws IOException {
        return Files.readString(Path.of(file), StandardCharsets.UTF_8);
    }

    private void compareAll() throws ReflectiveOperationException, IOException {
        Matcher block = BLOCK.matcher(text("README.md"));
        while (block.find()) {
            String code = block.group(1);
            if (code.startsWith(NEW)) {
                compareCalls(code.split("\n"));
            } else {
                compareHelper(code);
            }
        }
        check.due("methods that are shown", methods.size(), METHODS);
        check.due("helpers", helpers, 1);
        check.finish();
    }

    /** What the page gives to the reader is what the tests themselves use. */
    private void compareHelper(String code) throws IOException {
        String used = text("src/test/java/Check.java").replaceAll("(?m)^    ", "");
        check.due("a helper of the tests: " + code, used.contains(code) ? 1 : 0, 1);
        helpers++;
    }

    private void compareCalls(String[] lines) throws ReflectiveOperationException {
        CountedTerms x = new CountedTerms();
        for (int i = 1; i < lines.length; i++) {
            Matcher call = CALL.matcher(lines[i]);
            if (call.matches()) {
                methods.add(call.group(1));
                check.due(lines[i], answer(x, call.group(1), call.group(2)), Integer.parseInt(call.group(3)));
            } else {
                check.due("a call and its answer", lines[i], "x.method(..); // answer");
            }
        }
    }

    private static int answer(CountedTerms x, String name, String given) throws ReflectiveOperationException {
        String[] texts = given.isEmpty() ? new String[0] : given.split(", ");
        Class<?>[] types = new Class<?>[texts.length];
        Object[] values = new Object[texts.length];
        for (int i = 0; i < texts.length; i++) {
            boolean characters = name.equals("put");
            long value = value(texts[i]);
            types[i] = characters ? long.class : int.class;
            values[i] = characters ? (Object) value : (Object) Math.toIntExact(value);
        }
        Method method = CountedTerms.class.getMethod(name, types);
        return (Integer) method.invoke(x, values);
    }

    private static long value(String text) throws ReflectiveOperationException {
        if (text.startsWith("packed(\"") && text.endsWith("\")")) {
            return Check.packed(text.substring(8, text.length() - 2));
        }
        if (text.startsWith("CountedTerms.")) {
            return CountedTerms.class.getField(text.substring(13)).getInt(null);
        }
        return Long.parseLong(text);
    }
}
