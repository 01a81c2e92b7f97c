import java.io.IOException;
import java.nio.charset.StandardCharsets;
import java.nio.file.Files;
import java.nio.file.Path;
import java.util.List;
import java.util.regex.Matcher;
import java.util.regex.Pattern;

/** Those rules of ../shared/LANGUAGE.md that a look at the text of the program can hold. */
final class LanguageTest {
    private static final Path PROGRAM = Path.of("src/main/java/AchromatDesk.java");
    private static final List<String> FORBIDDEN = List.of(
        "throw", "throws", "try", "catch", "finally", "synchronized", "assert", "import", "package",
        "instanceof", "double", "float", "Object", "protected", "native", "volatile", "transient");
    private static final Pattern METHOD = Pattern.compile(
        "(?m)^ +(?:public |private |static )*(?:void|int|long|boolean) (\\w+)\\(([^)]*)\\) \\{$");
    private static final Pattern ROW_OR_PART = Pattern.compile(
        "private final \\w+\\[\\] \\w+ = new \\w+\\[\\w+\\];|\\w+ = new \\w+\\(\\);");
    private static final Due DUE = new Due();

    public static void main(String[] args) throws IOException {
        String text = Files.readString(PROGRAM, StandardCharsets.US_ASCII);
        String code = text.replaceAll("(?s)/\\*.*?\\*/", "").replaceAll("//[^\n]*", "");
        forbiddenWords(code);
        methods(text);
        objects(code);
        DUE.end();
    }

    private static void forbiddenWords(String code) {
        for (String word : FORBIDDEN) {
            DUE.isTrue("the program does without " + word, !Pattern.compile("\\b" + word + "\\b").matcher(code).find());
        }
        DUE.isTrue("no lambda", !code.contains("->"));
        DUE.isTrue("no method reference", !code.contains("::"));
        DUE.isTrue("no annotation", !code.contains("@"));
        DUE.isTrue("no remainder or quotient of an unknown divisor",
            !Pattern.compile("[^/*][/%] *[a-z(]").matcher(code).find());
        DUE.isTrue("floorDiv in one place", code.split("floorDiv", -1).length == 2);
    }

    private static void methods(String text) {
        Matcher matcher = METHOD.matcher(text);
        int found = 0;
        while (matcher.find()) {
            found++;
            String name = matcher.group(1);
            DUE.isTrue(name + " has at most seven parameters", matcher.group(2).split(",").length <= 7);
            String indent = matcher.group().substring(0, matcher.group().indexOf(matcher.group().trim()));
            int end = text.indexOf("\n" + indent + "}\n", matcher.start());
            long lines = text.substring(matcher.start(), end).lines().count();
            DUE.isTrue(name + " is short, with " + lines + " lines", lines <= 40);
        }
        DUE.isTrue("the methods are found", found > 60);
    }

    /** All rows are made with the desk, so that no call makes an object. */
    private static void objects(String code) {
        code.lines().filter(line -> line.matches(".*\\bnew\\b.*")).forEach(line ->
            DUE.isTrue("made with the desk: " + line.trim(), ROW_OR_PART.matcher(line.trim()).matches()));
    }
}
