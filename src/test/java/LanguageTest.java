import java.io.IOException;
import java.lang.reflect.Field;
import java.lang.reflect.Method;
import java.lang.reflect.Modifier;
import java.nio.file.Files;
import java.nio.file.Path;
import java.util.ArrayList;
import java.util.Arrays;
import java.util.List;
import java.util.Set;
import java.util.TreeSet;
import java.util.regex.Matcher;
import java.util.regex.Pattern;

/**
 * The class keeps to LANGUAGE.md, as far as its text and reflection can tell. It is narrower than
 * the rules where the class needs less than they leave: a new need shows here and is then looked
 * at against the rule.
 */
final class LanguageTest {
    private static final Path SOURCE = Path.of("src/main/java/ClaimSources.java");
    private static final String IMPORTS =
            "[import java.util.Arrays;, import java.util.NoSuchElementException;]";
    private static final String LIBRARY =
            "[Arrays.fill, Integer.bitCount, Math.max, System.arraycopy]";
    private static final Set<String> TYPES = Set.of("Arrays", "Integer", "Math", "System",
            "ClaimSources", "Texts", "Sources", "Claims", "Opinions",
            "NoSuchElementException", "IllegalArgumentException", "IllegalStateException");
    private static final String[] FORBIDDEN = {"package", "try", "catch", "finally", "synchronized",
        "assert", "native", "volatile", "transient", "strictfp", "protected", "var", "yield",
        "double", "float", "Object", "interface", "extends", "implements"};
    private static final int LONGEST_METHOD = 60;

    private static String code;

    public static void main(String[] args) throws IOException {
        code = withoutCommentsAndTexts(Files.readString(SOURCE));
        Due.due("rule 4: the imports", found("import [^;]*;"), IMPORTS);
        Due.due("rule 4: the library", found("\\b(Arrays|Integer|Long|Math|System)\\.\\w+"), LIBRARY);
        namesAreKnown();
        nothingForbidden();
        staticFieldsAreConstants();
        throwsAreWrittenOut();
        nothingIsMadeInACall();
        sizesAreSmall();
        Due.end();
    }

    /** Texts become empty ones. */
    private static String withoutCommentsAndTexts(String text) {
        return text.replaceAll("(?s)/\\*.*?\\*/", "").replaceAll("//[^\n]*", "")
                .replaceAll("\"[^\"\n]*\"", "\"\"");
    }

    private static String found(String pattern) {
        TreeSet<String> result = new TreeSet<>();
        Matcher matcher = Pattern.compile(pattern).matcher(code);
        while (matcher.find()) {
            result.add(matcher.group());
        }
        return result.toString();
    }

    private static int times(String pattern) {
        return (int) Pattern.compile(pattern).matcher(code).results().count();
    }

    private static void namesAreKnown() {
        Matcher matcher = Pattern.compile("\\b[A-Z]\\w*[a-z]\\w*").matcher(code);
        while (matcher.find()) {
            Due.due("rules 3 and 4: the name " + matcher.group(),
                    TYPES.contains(matcher.group()), true);
        }
    }

    private static void nothingForbidden() {
        for (String word : FORBIDDEN) {
            Due.due("the word " + word, times("\\b" + word + "\\b"), 0);
        }
        Due.due("rule 2: lambdas and method references", times("->|::"), 0);
        Due.due("rule 4: functions whose name ends in Exact", times("Exact\\b"), 0);
        Due.due("rule 5: static initialiser blocks", times("static\\s*\\{"), 0);
        Due.due("rule 6: casts", times("\\((int|long|short|byte|char)\\)"), 0);
        Due.due("rule 7: divisors that are not written out", times("[/%]=?\\s*[^\\s\\d=]"), 0);
        Due.due("rule 9: loops without a counter", times("\\b(while|do)\\b"), 0);
        Due.due("rule 9: for without a bound", times("for\\s*\\([^;)]*;\\s*;"), 0);
        Due.due("rule 10: joined texts", times("\"\\s*\\+|\\+\\s*\""), 0);
    }

    private static void staticFieldsAreConstants() {
        for (Class<?> owner : classes()) {
            for (Field field : owner.getDeclaredFields()) {
                int modifiers = field.getModifiers();
                if (Modifier.isStatic(modifiers)) {
                    Due.due("rule 5: " + field, Modifier.isFinal(modifiers)
                            && field.getType() == int.class, true);
                }
            }
        }
    }

    private static void throwsAreWrittenOut() {
        int written = times("throw new (NoSuchElement|IllegalArgument|IllegalState)"
                + "Exception\\(\"\"\\);");
        Due.due("rule 6: throw", times("\\bthrow\\b"), written);
        Due.due("rule 6: there are some", written > 0, true);
    }

    /** Every new stands behind a throw, at a final field, or in the one written constructor. */
    private static void nothingIsMadeInACall() {
        int thrown = times("throw new ");
        int rows = times("private final int\\[\\] \\w+ = new int\\[[A-Z_]+( \\* [A-Z_]+)?\\];");
        int parts = times("\\b(texts = new Texts|sources = new Sources"
                + "|claims = new Claims|opinions = new Opinions)\\(\\);");
        Due.due("rule 12: the parts of an object", parts, 4);
        Due.due("rule 12: new", times("\\bnew\\b"), thrown + rows + parts);
        Due.due("rule 12: arrays written out", times("\\{\\s*\\d"), 0);
        Due.due("rule 12: boxes and texts are not kept", times("\\b(String|valueOf)\\b"), 0);
    }

    private static void sizesAreSmall() {
        Due.due("rule 11: at most some twelve classes", classes().size() <= 12, true);
        for (Class<?> owner : classes()) {
            long fields = Arrays.stream(owner.getDeclaredFields())
                    .filter(field -> !Modifier.isStatic(field.getModifiers())).count();
            Due.due("rule 11: the fields of " + owner, fields <= 20, true);
            for (Method method : owner.getDeclaredMethods()) {
                Due.due("rule 11: the parameters of " + method,
                        method.getParameterCount() <= 7, true);
            }
        }
        Due.due("rule 11: the longest method", longestMethod() <= LONGEST_METHOD, true);
    }

    /** How many lines the longest method has, with those of its head and its last brace. */
    private static int longestMethod() {
        String[] lines = code.split("\n");
        int longest = 0;
        int head = -1;
        String end = "";
        for (int i = 0; i < lines.length; i++) {
            if (head < 0 && lines[i].matches("( {4}| {8})[a-zA-Z][^;=]*\\([^;]*")) {
                head = i;
                end = lines[i].replaceAll("\\S.*", "}");
            } else if (head >= 0 && lines[i].equals(end)) {
                longest = Math.max(longest, i - head + 1);
                head = -1;
            }
        }
        Due.due("rule 11: the lines of methods are counted", longest > 10, true);
        Due.due("rule 11: every method was seen to end", head, -1);
        return longest;
    }

    private static List<Class<?>> classes() {
        List<Class<?>> result = new ArrayList<>(List.of(ClaimSources.class));
        result.addAll(Arrays.asList(ClaimSources.class.getDeclaredClasses()));
        return result;
    }
}
