import java.io.IOException;
import java.lang.reflect.Method;
import java.lang.reflect.Modifier;
import java.net.URL;
import java.net.URLClassLoader;
import java.nio.file.Files;
import java.nio.file.Path;
import java.util.ArrayList;
import java.util.List;
import java.util.function.Consumer;
import java.util.regex.Matcher;
import java.util.regex.Pattern;
import javax.tools.ToolProvider;

/** README.md tells the truth: its examples answer what stands behind them, its settings have the ranges it tells. */
public final class ReadmeTest {
    private static final Path README = Path.of("README.md");
    private static final String BLOCK = "```";
    private static final Pattern ANSWERED = Pattern.compile("(\\w+\\.\\w+\\(.*\\)); +// ([-\\w.]+)(:.*)?");
    private static final Pattern SETTING =
        Pattern.compile("\\| `([A-Z]+)` \\| (\\d+) to (\\d+) \\| (\\d+) \\|.*");
    private static final int SETTINGS = 8;

    public static void main(String[] args) throws IOException, ReflectiveOperationException {
        List<String> lines = Files.readAllLines(README);
        examplesAnswerAsTold(lines);
        everyCallIsShown(String.join("\n", lines));
        settingsAreAsTold(lines);
        Check.end("ReadmeTest");
    }

    // ---- the examples

    private static void examplesAnswerAsTold(List<String> lines) throws IOException, ReflectiveOperationException {
        List<String> code = examples(lines);
        List<String> calls = new ArrayList<>();
        List<Double> due = new ArrayList<>();
        StringBuilder body = new StringBuilder();
        for (String line : code) {
            Matcher matcher = ANSWERED.matcher(line.trim());
            if (matcher.matches()) {
                calls.add("README: " + matcher.group(1));
                due.add(number(matcher.group(2)));
                body.append("answers.add((double) ").append(matcher.group(1)).append(");\n");
            } else {
                Check.holds("README: a comment that begins with an answer: " + line, !line.contains("//"));
                body.append(line).append('\n');
            }
        }
        List<Double> answers = new ArrayList<>();
        compiled(body.toString()).accept(answers);
        Check.due("README: answers", answers.size(), calls.size());
        Check.holds("README: there are examples", calls.size() > 0);
        for (int i = 0; i < calls.size() && i < answers.size(); i++) {
            Check.due(calls.get(i), answers.get(i), due.get(i));
        }
    }

    private static List<String> examples(List<String> lines) {
        List<String> code = new ArrayList<>();
        boolean inside = false;
        for (String line : lines) {
            if (line.startsWith(BLOCK)) {
                inside = line.equals(BLOCK + "java");
            } else if (inside) {
                code.add(line);
            }
        }
        return code;
    }

    private static double number(String answer) throws ReflectiveOperationException {
        if (Character.isLetter(answer.charAt(0))) {
            return Names.class.getDeclaredField(answer).getInt(null);
        }
        return answer.endsWith("f") ? Float.parseFloat(answer) : Integer.parseInt(answer);
    }

    /** The examples as a user would compile them. */
    @SuppressWarnings("unchecked")
    private static Consumer<List<Double>> compiled(String body) throws IOException, ReflectiveOperationException {
        Path folder = Files.createTempDirectory("readme");
        Path source = folder.resolve("Examples.java");
        Files.writeString(source, "import java.util.List;\n"
            + "public final class Examples implements java.util.function.Consumer<List<Double>> {\n"
            + "public void accept(List<Double> answers) {\n" + body + "}\n}\n");
        String path = System.getProperty("java.class.path");
        int code = ToolProvider.getSystemJavaCompiler()
            .run(null, null, null, "-cp", path, "-d", folder.toString(), source.toString());
        Check.due("README: javac of the examples", code, 0);
        try (URLClassLoader loader = new URLClassLoader(new URL[] {folder.toUri().toURL()})) {
            return (Consumer<List<Double>>) loader.loadClass("Examples").getConstructor().newInstance();
        } finally {
            try (var files = Files.list(folder)) {
                files.forEach(file -> file.toFile().delete());
            }
            Files.delete(folder);
        }
    }

    // ---- the tables

    private static void everyCallIsShown(String text) {
        for (Method method : AdmissionControl.class.getDeclaredMethods()) {
            if (Modifier.isPublic(method.getModifiers())) {
                Check.holds("README shows " + method.getName(), text.contains("`" + method.getName() + "("));
            }
        }
    }

    private static void settingsAreAsTold(List<String> lines) throws ReflectiveOperationException {
        int found = 0;
        for (String line : lines) {
            Matcher matcher = SETTING.matcher(line);
            if (matcher.matches()) {
                found++;
                int setting = Names.class.getDeclaredField(matcher.group(1)).getInt(null);
                boolean isOfTheServer = found <= SETTINGS / 2;
                settingIsAsTold(matcher.group(1), isOfTheServer, setting, Integer.parseInt(matcher.group(2)),
                    Integer.parseInt(matcher.group(3)), Integer.parseInt(matcher.group(4)));
            }
        }
        Check.due("README: settings", found, SETTINGS);
    }

    private static void settingIsAsTold(String name, boolean isOfTheServer, int setting, int least, int most, int first) {
        AdmissionControl x = new AdmissionControl();
        int[] values = {least - 1, most + 1, least, most, first};
        int[] due = {Names.BAD_VALUE, Names.BAD_VALUE, first, least, most};
        for (int i = 0; i < values.length; i++) {
            int answer = isOfTheServer ? x.set(setting, values[i]) : x.setClass(1, setting, values[i]);
            Check.due("README: " + name + " " + values[i], answer, due[i]);
        }
    }
}
