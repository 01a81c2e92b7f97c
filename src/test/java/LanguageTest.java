import java.io.IOException;
import java.nio.charset.StandardCharsets;
import java.nio.file.Files;
import java.nio.file.Path;
import java.util.List;
import java.util.regex.Matcher;
import java.util.regex.Pattern;

/** Those rules of ../shared/LANGUAGE.md that a look at the text of the program can hold. */
final class LanguageTest {
    private static final Path PROGRAM = Path.of("src/main/java/AchromatDesk.java");
    private static final List<String> FORBIDDEN = List.of(
        "throw", "throws", "try", "catch", "finally", "synchronized", "assert", "package", "protected",
        "native", "volatile", "Object", "System.nanoTime", "System.currentTimeMillis", "Thread",
        "addExact", "subtractExact", "multiplyExact", "negateExact", "toIntExact", "incrementExact");
    private static final Pattern METHOD = Pattern.compile(
        "(?m)^ +(?:public |private |static |final )*[\\w\\[\\]]+ (\\w+)\\(([^)]*)\\) \\{$");
    private static final Pattern ROW_OR_PART = Pattern.compile(
        "private final \\w+\\[\\] \\w+ = new \\w+\\[\\w+\\];|\\w+ = new \\w+\\(\\);");
    private static final Pattern IMPORT = Pattern.compile("import ([^;]+);");
    private static final Due DUE = new Due();

    public static void main(String[] args) throws IOException {
        String text = Files.readString(PROGRAM, StandardCharsets.US_ASCII);
        String code = text.replaceAll("(?s)/\\*.*?\\*/", "").replaceAll("//[^\n]*", "");
        forbiddenWords(code);
        imports(code);
        divisors(code);
        objects(code);
        classes(code);
        methods(text);
        DUE.end();
    }

    private static void forbiddenWords(String code) {
        for (String word : FORBIDDEN) {
            DUE.isTrue("rules 4, 6, 13: the program does without " + word,
                !Pattern.compile("\\b" + Pattern.quote(word) + "\\b").matcher(code).find());
        }
        String withoutCases = code.replaceAll("(case [^;{}]*?|default) *->", "");
        DUE.isTrue("rule 2: no lambda", !withoutCases.contains("->"));
        DUE.isTrue("rule 2: no method reference", !code.contains("::"));
        DUE.isTrue("rule 5: no static initialiser", !Pattern.compile("\\bstatic *\\{").matcher(code).find());
    }

    private static void imports(String code) {
        List<String> allowed = List.of(
            "java.util.ArrayList", "java.util.List", "java.util.Arrays", "java.util.Iterator");
        Matcher matcher = IMPORT.matcher(code);
        while (matcher.find()) {
            DUE.isTrue("rule 4: import " + matcher.group(1), allowed.contains(matcher.group(1)));
        }
    }

    /** floorQuotient looks at its divisor, and is the only one to divide by what is not written out. */
    private static void divisors(String code) {
        DUE.isTrue("rule 7: no remainder or quotient of an unknown divisor",
            !Pattern.compile("[^/*][/%] *[a-z(]").matcher(code).find());
        DUE.isTrue("rule 7: floorDiv in one place", code.split("floorDiv", -1).length == 2);
    }

    /** All rows are made with the desk, so that no call makes an object. */
    private static void objects(String code) {
        code.lines().filter(line -> line.matches(".*\\bnew\\b.*")).forEach(line ->
            DUE.isTrue("rule 12: made with the desk: " + line.trim(), ROW_OR_PART.matcher(line.trim()).matches()));
    }

    private static void classes(String code) {
        Matcher matcher = Pattern.compile("\\b(?:class|record|enum|interface) \\w+").matcher(code);
        int found = 0;
        while (matcher.find()) {
            found++;
        }
        DUE.isTrue("rule 11: " + found + " classes", found >= 1 && found <= 12);
    }

    private static void methods(String text) {
        Matcher matcher = METHOD.matcher(text);
        int found = 0;
        while (matcher.find()) {
            found++;
            String name = matcher.group(1);
            DUE.isTrue("rule 11: " + name + " has at most seven parameters",
                matcher.group(2).split(",").length <= 7);
            String indent = matcher.group().substring(0, matcher.group().indexOf(matcher.group().trim()));
            int end = text.indexOf("\n" + indent + "}\n", matcher.start());
            long lines = text.substring(matcher.start(), end < 0 ? text.length() : end).lines().count();
            DUE.isTrue("rule 11: " + name + " is short, with " + lines + " lines", lines <= 60);
        }
        DUE.isTrue("the methods are found", found >= 29);
    }
}
