import java.io.IOException;
import java.nio.file.Files;
import java.nio.file.Path;
import java.util.ArrayList;
import java.util.Arrays;
import java.util.List;
import java.util.TreeSet;
import java.util.regex.Matcher;
import java.util.regex.Pattern;

/**
 * What README.md shows of the class is so: each line of its Java example is called, in their order
 * and on one object, and must answer what stands behind it; and every call of the face is shown.
 */
final class ReadmeTest {
    private static final Path README = Path.of("README.md");
    private static final String NEW_OBJECT = "ClaimSources x = new ClaimSources();";
    private static final Pattern LINE = Pattern.compile("x\\.(\\w+)\\((.*)\\); +// ('.'|[\\w-]+).*");

    public static void main(String[] args) throws IOException {
        ClaimSources x = new ClaimSources();
        TreeSet<String> shown = new TreeSet<>();
        for (String line : exampleLines()) {
            Matcher parts = LINE.matcher(line);
            Due.due("README.md: a call and its answer: " + line, parts.matches(), true);
            if (parts.matches()) {
                Call call = new Call(parts.group(1), arguments(parts.group(2)));
                Due.due("README.md: " + line, call.on(x), answer(parts.group(3)));
                shown.add(parts.group(1));
            }
        }
        Due.due("README.md shows", shown.toString(), faceNames().toString());
        Due.end();
    }

    private static List<String> exampleLines() throws IOException {
        List<String> lines = new ArrayList<>();
        boolean inside = false;
        for (String line : Files.readAllLines(README)) {
            if (line.startsWith("```")) {
                inside = line.equals("```java");
            } else if (inside && !line.isBlank() && !line.startsWith("//")
                    && !line.equals(NEW_OBJECT)) {
                lines.add(line);
            }
        }
        return lines;
    }

    private static TreeSet<String> faceNames() {
        TreeSet<String> names = new TreeSet<>();
        Arrays.stream(ClaimSources.class.getMethods())
                .filter(method -> method.getDeclaringClass() == ClaimSources.class)
                .forEach(method -> names.add(method.getName()));
        return names;
    }

    private static Object[] arguments(String text) {
        return text.isEmpty() ? new Object[0]
                : Arrays.stream(text.split(", ")).map(ReadmeTest::argument).toArray();
    }

    private static Object argument(String text) {
        return text.equals("true") || text.equals("false")
                ? Boolean.valueOf(text) : Integer.valueOf(number(text));
    }

    private static String answer(String text) {
        if (text.endsWith("Exception")) {
            return "throws." + text;
        }
        return text.equals("true") || text.equals("false") ? text : number(text);
    }

    private static String number(String text) {
        switch (text) {
            case "NONE":
            case "ClaimSources.NONE":
                return String.valueOf(ClaimSources.NONE);
            case "TIE":
                return String.valueOf(ClaimSources.TIE);
            default:
                return text.startsWith("'") ? String.valueOf((int) text.charAt(1)) : text;
        }
    }
}
