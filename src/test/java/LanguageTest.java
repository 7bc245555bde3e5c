import java.io.IOException;
import java.nio.file.Files;
import java.nio.file.Path;
import java.util.List;

/** Those rules of LANGUAGE.md that can be read off the text of the class. */
public final class LanguageTest {
    private static final Path SOURCE = Path.of("src/main/java/LaneCrowds.java");
    private static final String[] FORBIDDEN = {
        "->", "::", "\\binstanceof\\b", "\\bsynchronized\\b", "\\bassert\\b", "\\bfinally\\b", "\\btry\\s*[({]",
        "\\bcatch\\b", "\\bgetMessage\\b", "\\bExact\\(", "\\bpackage\\b", "\\bprotected\\b", "\\bvar\\b", "\\byield\\b",
        "\\bstatic\\s*\\{", "\\bMath\\.random", "\\bSystem\\.(?!arraycopy)", "\\bThread\\b", "\\bObject\\b",
        "\\bhashCode\\b", "\\bequals\\b", "\\btoString\\b", "while \\(true\\)", "for \\(;;"};

    private static final Checks checks = new Checks();

    public static void main(String[] args) throws IOException {
        List<String> lines = Files.readAllLines(SOURCE);
        String code = withoutComments(String.join("\n", lines));
        for (String word : FORBIDDEN) {
            checks.holds("no " + word, !code.matches("(?s).*(" + word + ").*"));
        }
        checks.holds("characters of 10 to 126 alone", code.chars().allMatch(c -> c == 10 || c >= 32 && c < 127));
        for (String line : lines) {
            checks.holds("import " + line, !line.startsWith("import ") || line.equals("import java.util.Arrays;"));
        }
        objectsAreMadeInConstructorsAlone(code);
        checks.holds("at most 12 classes", code.split("\\bclass [A-Z]").length - 1 <= 12);
        methodsAreShort(code);
        checks.end();
    }

    private static String withoutComments(String text) {
        return text.replaceAll("(?s)/\\*.*?\\*/", "").replaceAll("//[^\n]*", "");
    }

    private static void objectsAreMadeInConstructorsAlone(String code) {
        String method = "";
        for (String line : code.split("\n")) {
            if (line.matches(" +(public|private) .*\\(.*")) {
                method = line.trim();
            }
            boolean constructs = method.matches("(public|private) [A-Z]\\w+\\(\\) \\{");
            checks.holds("made in a constructor, or thrown: " + line,
                !line.contains("new ") || line.trim().startsWith("throw new ") && !constructs
                    || constructs && !line.contains("throw "));
        }
    }

    private static void methodsAreShort(String code) {
        int start = 0;
        String[] lines = code.split("\n");
        for (int i = 0; i < lines.length; i++) {
            if (lines[i].matches(" +(public|private) .*\\(.*")) {
                start = i;
            }
            checks.holds("a method of at most 60 lines at " + lines[i], i - start <= 60 || !lines[i].startsWith("        "));
        }
    }
}
