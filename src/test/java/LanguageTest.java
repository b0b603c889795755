import java.nio.charset.StandardCharsets;
import java.nio.file.Files;
import java.nio.file.Path;
import java.util.regex.Matcher;
import java.util.regex.Pattern;

/** The rules of LANGUAGE.md that can be seen in the program's text. */
public final class LanguageTest {
    private static final String[] FORBIDDEN = {
        "\\bthrow\\b", "\\bthrows\\b", "\\btry\\b", "\\bcatch\\b", "\\bfinally\\b", "\\bsynchronized\\b",
        "\\bassert\\b", "\\bpackage\\b", "->", "::", "\\bprotected\\b", "\\bRandom\\b", "\\bThread\\b",
        "\\bSystem\\.(?!arraycopy)", "Exact\\(", "\\bimport\\b(?! java\\.util\\.(ArrayList|List|Arrays|Iterator);)"};

    public static void main(String[] args) throws Exception {
        String text = Files.readString(Path.of("src/main/java/PatchBench.java"), StandardCharsets.ISO_8859_1);
        String code = text.replaceAll("(?s)/\\*.*?\\*/", "").replaceAll("//[^\n]*", "").replaceAll("\"[^\"\n]*\"", "\"\"");
        for (String word : FORBIDDEN) {
            Due.no("uses " + word, Pattern.compile(word).matcher(code).find());
        }
        everyStaticFieldIsFinal(code);
        methodsAreShort(text);
        int classes = 0;
        Matcher matcher = Pattern.compile("\\b(class|record|enum|interface) [A-Z]").matcher(code);
        while (matcher.find()) {
            classes++;
        }
        Due.yes("at most twelve classes: " + classes, classes <= 12);
        Due.end();
    }

    private static void everyStaticFieldIsFinal(String code) {
        for (String line : code.split("\n")) {
            boolean isField = line.matches("\\s*(public |private )?static .*[=;].*") && !line.contains("(");
            Due.yes("final: " + line, !isField || line.contains("static final"));
        }
    }

    /** A method begins with a line that ends in ') {' at a member's indent and ends with '}' at the same. */
    private static void methodsAreShort(String text) {
        String[] lines = text.split("\n");
        for (int i = 0; i < lines.length; i++) {
            Matcher head = Pattern.compile("^( {4}| {8})[a-zA-Z].*\\((.*)\\) \\{$").matcher(lines[i]);
            if (head.find() && !lines[i].trim().matches("(for|if|while|switch)\\b.*")) {
                int end = i;
                while (end < lines.length && !lines[end].equals(head.group(1) + "}")) {
                    end++;
                }
                Due.yes("short: " + lines[i], end - i < 60);
                Due.yes("at most seven parameters: " + lines[i], head.group(2).split(",").length <= 7);
            }
        }
    }
}
