import java.io.IOException;
import java.lang.reflect.InvocationTargetException;
import java.lang.reflect.Method;
import java.lang.reflect.Modifier;
import java.net.URL;
import java.net.URLClassLoader;
import java.nio.file.Files;
import java.nio.file.Path;
import java.nio.file.Paths;
import java.util.ArrayList;
import java.util.Comparator;
import java.util.List;
import java.util.Set;
import java.util.TreeSet;
import java.util.regex.Matcher;
import java.util.regex.Pattern;
import java.util.stream.Stream;

/**
 * README.md: its examples are compiled as they stand and run, each call's answer held against the number behind its
 * comment; each call of the face is told and has an example. The path of the page may be given as argument.
 */
public final class ReadmeTest {
    private static final Pattern CALL = Pattern.compile("\\s*((?:Double\\.longBitsToDouble\\()?\\w+\\.(\\w+)\\(.*\\));(.*)");
    private static final Pattern ANSWER = Pattern.compile("\\s*// (-?\\d+(?:\\.\\d+)?)(?:\\D.*)?");
    private static final Set<String> SHOWN = new TreeSet<>();
    private static int answers = 0;
    private static int wrong = 0;

    public static void main(String[] args) throws Exception {
        List<String> page = Files.readAllLines(Paths.get(args.length > 0 ? args[0] : "README.md"));
        String program = program(page);
        Path folder = Files.createTempDirectory("readme");
        try {
            run(folder, program);
        } finally {
            remove(folder);
        }
        face(String.join("\n", page));
        need(answers > 0, "no answer is shown");
        System.out.println("readme: " + answers + " answers, " + (wrong == 0 ? "as due" : wrong + " faults"));
        if (wrong != 0) {
            System.exit(1);
        }
    }

    private static void need(boolean holds, String what) {
        if (!holds) {
            wrong++;
            System.out.println(what);
        }
    }

    /** What the examples call with what they answer. */
    public static void due(String call, long want, long got) {
        answers++;
        need(want == got, "README.md: " + call + " answered " + got + ", shown is " + want);
    }

    public static void due(String call, double want, double got) {
        answers++;
        need(want == got, "README.md: " + call + " answered " + got + ", shown is " + want);
    }

    /** All Java of the page as one class: a block of methods as it is, any other block a method of its own. */
    private static String program(List<String> page) {
        StringBuilder methods = new StringBuilder();
        StringBuilder calls = new StringBuilder();
        int blocks = 0;
        for (int i = 0; i < page.size(); i++) {
            if (!page.get(i).equals("```java")) {
                continue;
            }
            List<String> block = new ArrayList<>();
            for (i++; i < page.size() && !page.get(i).equals("```"); i++) {
                block.add(page.get(i));
            }
            if (block.get(0).startsWith("static ")) {
                block.forEach(line -> methods.append(line).append('\n'));
                continue;
            }
            methods.append("static void block").append(blocks).append("() {\n");
            block.forEach(line -> methods.append(withAnswer(line)).append('\n'));
            methods.append("}\n");
            calls.append("block").append(blocks).append("();\n");
            blocks++;
        }
        return "public final class Examples {\npublic static void run() {\n" + calls + "}\n" + methods + "}\n";
    }

    private static String withAnswer(String line) {
        Matcher call = CALL.matcher(line);
        if (!call.matches()) {
            return line;
        }
        Matcher answer = ANSWER.matcher(call.group(3));
        if (!answer.matches()) {
            need(false, "README.md: no answer is shown: " + line);
            return line;
        }
        String asked = call.group(1);
        Matcher names = Pattern.compile("\\.(\\w+)\\(").matcher(asked);
        while (names.find()) {
            SHOWN.add(names.group(1));
        }
        String want = answer.group(1) + (answer.group(1).contains(".") ? "" : "L");
        return "ReadmeTest.due(\"" + asked + "\", " + want + ", " + asked + ");";
    }

    private static void run(Path folder, String program) throws Exception {
        Path file = folder.resolve("Examples.java");
        Files.writeString(file, program);
        String classes = System.getProperty("java.class.path");
        int code = new ProcessBuilder("javac", "-cp", classes, "-d", folder.toString(), file.toString()).inheritIO().start().waitFor();
        need(code == 0, "the examples do not compile");
        if (code != 0) {
            return;
        }
        try (URLClassLoader loader = new URLClassLoader(new URL[] {folder.toUri().toURL()})) {
            loader.loadClass("Examples").getMethod("run").invoke(null);
        } catch (InvocationTargetException thrown) {
            need(false, "the examples threw " + thrown.getCause());
        }
    }

    private static void face(String page) {
        for (Method m : TillFloat.class.getDeclaredMethods()) {
            if (Modifier.isPublic(m.getModifiers())) {
                String told = "| `" + m.getName() + "(" + (m.getParameterCount() == 0 ? ")" : "");
                need(page.contains(told), "README.md does not tell " + m.getName());
                need(SHOWN.contains(m.getName()), "README.md has no example of " + m.getName());
            }
        }
    }

    private static void remove(Path folder) throws IOException {
        try (Stream<Path> all = Files.walk(folder)) {
            for (Path path : all.sorted(Comparator.reverseOrder()).toList()) {
                Files.delete(path);
            }
        }
    }
}
