import java.io.File;
import java.io.IOException;
import java.lang.reflect.Method;
import java.lang.reflect.Modifier;
import java.net.URL;
import java.net.URLClassLoader;
import java.nio.charset.StandardCharsets;
import java.nio.file.Files;
import java.nio.file.Path;
import java.nio.file.Paths;
import java.util.ArrayList;
import java.util.List;
import java.util.regex.Matcher;
import java.util.regex.Pattern;
import javax.tools.ToolProvider;

/** The examples of README.md, compiled and run: each call must answer what the comment behind it says. */
public final class ReadmeTest extends Checks {
    private static final Pattern BLOCK = Pattern.compile("(?s)```java\n(.*?)```");
    private static final Pattern LINE = Pattern.compile("((?:nests\\.|read\\().*); +// (-?\\d+|true|false)(?:[:.].*)?");
    private static final String BEGIN = "DeltaNests nests = new DeltaNests();";

    public static void main(String[] args) throws Exception {
        at = "README.md";
        String page = new String(Files.readAllBytes(Paths.get("README.md")), StandardCharsets.UTF_8);
        everyCallStandsIn(page);
        List<Object[]> rows = new ArrayList<>();
        run(source(page), rows);
        for (Object[] row : rows) {
            due(row[0] + " as " + row[2] + " (it answers " + row[1] + ")", row[1].equals(row[2]), true);
        }
        System.out.println("readme: " + rows.size() + " answers, " + wrong + " fail");
        if (wrong != 0 || rows.isEmpty()) {
            System.exit(1);
        }
    }

    private static void everyCallStandsIn(String page) {
        StringBuilder examples = new StringBuilder();
        Matcher block = BLOCK.matcher(page);
        while (block.find()) {
            examples.append(block.group(1));
        }
        for (Method method : DeltaNests.class.getDeclaredMethods()) {
            if (Modifier.isPublic(method.getModifiers())) {
                due("an example of " + method.getName(), examples.indexOf("nests." + method.getName() + "(") >= 0, true);
            }
        }
    }

    /** A class whose method runs every example; a block that is a method of its own is put beside it. */
    private static String source(String page) {
        StringBuilder methods = new StringBuilder();
        StringBuilder body = new StringBuilder();
        Matcher block = BLOCK.matcher(page);
        while (block.find()) {
            if (block.group(1).startsWith("static ")) {
                methods.append(block.group(1));
            } else {
                body.append("{\n");
                for (String line : block.group(1).split("\n")) {
                    body.append(statement(line)).append('\n');
                }
                body.append("}\n");
            }
        }
        return "public final class ReadmeRuns {\n" + methods
            + "public static void run(java.util.List<Object[]> rows) {\n" + body + "}\n}\n";
    }

    private static String statement(String line) {
        if (line.equals(BEGIN)) {
            return line;
        }
        Matcher call = LINE.matcher(line);
        due("a call and its answer in: " + line, call.matches(), true);
        if (!call.matches()) {
            return "";
        }
        String name = call.group(1).replace("\\", "\\\\").replace("\"", "\\\"");
        return "rows.add(new Object[] {\"" + name + "\", " + call.group(1) + ", " + call.group(2) + "});";
    }

    private static void run(String source, List<Object[]> rows) throws Exception {
        Path place = Files.createTempDirectory("readme");
        try {
            Path file = place.resolve("ReadmeRuns.java");
            Files.write(file, source.getBytes(StandardCharsets.UTF_8));
            int compiled = ToolProvider.getSystemJavaCompiler().run(null, null, null, "-encoding", "UTF-8",
                "-d", place.toString(), "-cp", System.getProperty("java.class.path"), file.toString());
            due("compiling the examples", compiled, 0);
            if (compiled == 0) {
                URL[] urls = {place.toUri().toURL()};
                try (URLClassLoader loader = new URLClassLoader(urls, ReadmeTest.class.getClassLoader())) {
                    loader.loadClass("ReadmeRuns").getMethod("run", List.class).invoke(null, rows);
                }
            }
        } finally {
            remove(place.toFile());
        }
    }

    private static void remove(File place) throws IOException {
        File[] inside = place.listFiles();
        if (inside != null) {
            for (File file : inside) {
                Files.delete(file.toPath());
            }
        }
        Files.delete(place.toPath());
    }
}
