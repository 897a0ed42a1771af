import java.io.IOException;
import java.nio.charset.StandardCharsets;
import java.nio.file.Files;
import java.nio.file.Path;
import java.util.List;
import java.util.regex.Matcher;
import java.util.regex.Pattern;

/** Those rules of LANGUAGE.md that can be seen from the text of the class. */
public final class LanguageTest {
    private static final Path SOURCE = Path.of("src/main/java/AdmissionControl.java");
    private static final int LONGEST_METHOD = 60;
    private static final int MOST_CLASSES = 12;

    public static void main(String[] args) throws IOException {
        String text = Files.readString(SOURCE, StandardCharsets.ISO_8859_1);
        Check.holds("signs are 1 to 127", text.chars().allMatch(sign -> sign > 0 && sign < 127));
        String code = withoutComments(text);
        String[][] ruledOut = {
            {"a package or import line", "\\b(package|import)\\b"},
            {"a lambda or method reference", "->|::"},
            {"a machine exception caught or anything thrown", "\\b(catch|throw|throws|try|finally)\\b"},
            {"synchronized, assert and their like", "\\b(synchronized|assert|volatile|transient|native)\\b"},
            {"a static block", "\\bstatic\\s*\\{"},
            {"equals, hashCode or toString", "\\b(equals|hashCode|toString|getClass)\\b"},
            {"what the list of the library leaves out",
                "\\b(System|Thread|Random|Runtime|Object|Class|Map|Set|HashMap|stream|var|record|yield)\\b"},
            {"a function of Math that throws", "\\bMath\\.\\w*Exact\\b"},
            {"protected", "\\bprotected\\b"}};
        for (String[] rule : ruledOut) {
            Matcher matcher = Pattern.compile(rule[1]).matcher(code);
            Check.holds("there is no " + rule[0], !matcher.find());
        }
        Matcher statics = Pattern.compile("\\bstatic\\b(?! final)[^(;{]*[=;]").matcher(code);
        Check.holds("static fields are final", !statics.find());
        Matcher classes = Pattern.compile("\\b(class|enum|interface) \\w+").matcher(code);
        Check.holds("few classes", classes.results().count() <= MOST_CLASSES);
        indexesAreTested(code);
        methodsAreShort(code);
        Check.end("LanguageTest");
    }

    private static String withoutComments(String text) {
        return text.replaceAll("(?s)/\\*.*?\\*/", "").replaceAll("//[^\n]*", "");
    }

    /** Every line that takes an element tests the index itself or stands right below the test. */
    private static void indexesAreTested(String code) {
        List<String> lines = code.lines().toList();
        Pattern element = Pattern.compile("\\w+\\[(\\w+)\\]");
        for (int i = 1; i < lines.size(); i++) {
            Matcher matcher = element.matcher(lines.get(i));
            while (matcher.find()) {
                String index = matcher.group(1);
                boolean isLength = lines.get(i).contains("new int[") || lines.get(i).contains("new Request[");
                String near = lines.get(i - 1) + lines.get(i);
                Check.holds("a test of the index in: " + lines.get(i).trim(),
                    isLength || (near.contains(index + " < ") && near.contains(".length")));
            }
        }
    }

    private static void methodsAreShort(String code) {
        int begin = -1;
        List<String> lines = code.lines().toList();
        for (int i = 0; i < lines.size(); i++) {
            String line = lines.get(i);
            if (line.matches(" {4,8}[\\w\\[\\] ]+\\([\\w, ]*\\) \\{")) {
                begin = i;
            }
            if (begin >= 0 && line.matches(" {4,8}\\}")) {
                Check.holds("a short method: " + lines.get(begin).trim(), i - begin < LONGEST_METHOD);
                begin = -1;
            }
        }
    }
}
