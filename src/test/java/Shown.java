import java.io.IOException;
import java.lang.reflect.Method;
import java.net.URL;
import java.net.URLClassLoader;
import java.nio.file.Files;
import java.nio.file.Path;
import java.util.ArrayList;
import java.util.List;
import java.util.regex.Matcher;
import java.util.regex.Pattern;
import javax.tools.ToolProvider;

/** Lines of Java as a text shows them, with the answer behind a call: x.mesh(); // 2. They are compiled and run. */
final class Shown {
    private static final Pattern CALL = Pattern.compile("\\s*x\\.(\\w+\\(.*\\)); *// (-?\\d+)(: .+)?");
    private static final Pattern TOLD = Pattern.compile("(\\w+\\([^)]*\\)) = (-?\\d+)");
    static final String NEW_OBJECT = "MeshParents x = new MeshParents();";

    private Shown() {
    }

    /** The Java blocks of a text in Markdown. */
    static List<List<String>> blocks(List<String> text) {
        List<List<String>> all = new ArrayList<>();
        boolean isInside = false;
        for (String line : text) {
            if (line.startsWith("```")) {
                isInside = !isInside;
                if (isInside) {
                    all.add(new ArrayList<>());
                }
            } else if (isInside) {
                all.get(all.size() - 1).add(line);
            }
        }
        return all;
    }

    /** An example of the document, as such lines. */
    static List<String> example(Doc doc, int number) {
        String all = doc.text("Examples");
        int from = all.indexOf(number + ". ");
        int to = all.indexOf((number + 1) + ". ");
        List<String> lines = new ArrayList<>();
        lines.add(NEW_OBJECT);
        Matcher told = TOLD.matcher(all.substring(Math.max(0, from), to < 0 ? all.length() : to));
        while (told.find()) {
            lines.add("x." + told.group(1) + "; // " + told.group(2));
        }
        return lines;
    }

    /** The calls with their answers, without what stands around and behind them. */
    static List<String> calls(List<String> lines) {
        List<String> all = new ArrayList<>();
        for (String line : lines) {
            Matcher call = CALL.matcher(line);
            if (call.matches()) {
                all.add(call.group(1) + " = " + call.group(2));
            }
        }
        return all;
    }

    /** Runs the lines; each answer must be the one that is shown. */
    static void run(String name, List<String> lines, Path folder) throws Exception {
        Check.test(name);
        List<String> calls = calls(lines);
        if (!isCompiled(name, source(name, lines), folder)) {
            return;
        }
        try (URLClassLoader loader = new URLClassLoader(new URL[] {folder.toUri().toURL()})) {
            Method run = loader.loadClass(name).getDeclaredMethod("run");
            run.setAccessible(true);
            long[] answers = (long[]) run.invoke(null);
            for (int i = 0; i < answers.length; i++) {
                String call = calls.get(i);
                String told = call.substring(call.lastIndexOf(' ') + 1);
                Check.due(call.substring(0, call.lastIndexOf(" =")), answers[i], Long.parseLong(told));
            }
        }
    }

    /** A class whose only method makes the calls and returns their answers. */
    private static String source(String name, List<String> lines) {
        StringBuilder all = new StringBuilder("final class " + name + " {\n  static long[] run() {\n");
        all.append("    long[] answers = new long[").append(calls(lines).size()).append("];\n");
        int count = 0;
        for (String line : lines) {
            Matcher call = CALL.matcher(line);
            if (call.matches()) {
                all.append("    answers[").append(count++).append("] = x.").append(call.group(1)).append(";\n");
            } else {
                Check.holds("a remark that is no answer: " + line, !line.contains("//"));
                all.append("    ").append(line).append('\n');
            }
        }
        return all.append("    return answers;\n  }\n}\n").toString();
    }

    private static boolean isCompiled(String name, String source, Path folder) throws IOException {
        Files.createDirectories(folder);
        Path file = folder.resolve(name + ".java");
        Files.writeString(file, source);
        int result = ToolProvider.getSystemJavaCompiler().run(null, null, null, "--release", "17", "-d", folder.toString(),
            "-cp", System.getProperty("java.class.path"), file.toString());
        Check.due("javac of " + file, result, 0);
        return result == 0;
    }
}
