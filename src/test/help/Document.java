import java.io.IOException;
import java.lang.reflect.Method;
import java.nio.charset.StandardCharsets;
import java.nio.file.Files;
import java.nio.file.Paths;
import java.util.Arrays;
import java.util.BitSet;
import java.util.Comparator;
import java.util.LinkedHashMap;
import java.util.Map;
import java.util.regex.Matcher;
import java.util.regex.Pattern;

/** ../shared/DOC.md by its headings, and what of it is quoted by tests. */
final class Document {
    private final Map<String, String> sections = new LinkedHashMap<>();
    private final Map<String, BitSet> quoted = new LinkedHashMap<>();

    Document() throws IOException {
        String all = new String(Files.readAllBytes(Paths.get("../shared/DOC.md")), StandardCharsets.UTF_8);
        for (String part : all.split("(?m)^## ")) {
            int line = part.indexOf('\n');
            String heading = part.substring(0, line).replaceAll(":.*", "");
            String text = part.substring(line).replaceAll("```(text|java)?", " ").replaceAll("\\s+", " ");
            sections.put(heading, text);
            quoted.put(heading, new BitSet());
        }
    }

    /** Runs every test of the class that bears a sentence; then all that names an edge there must be borne by one. */
    static void hold(Class<?> tests, String headings, String edges) throws Exception {
        Document document = new Document();
        Method[] methods = tests.getDeclaredMethods();
        Arrays.sort(methods, Comparator.comparing(Method::getName));
        int many = 0;
        for (Method method : methods) {
            Says says = method.getAnnotation(Says.class);
            if (says != null) {
                Checks.at = method.getName() + " (" + says.in() + ": " + says.that() + ")";
                int before = Checks.checks;
                method.setAccessible(true);
                method.invoke(null);
                Checks.due("checks something", Checks.checks > before, true);
                Checks.due("stands in the document", document.quote(says), true);
                many++;
            }
        }
        document.look(headings, edges);
        System.out.println(tests.getName() + ": " + many + " sentences, " + Checks.checks + " checks, " + Checks.wrong + " fail");
        if (Checks.wrong > 0) {
            System.exit(1);
        }
    }

    private boolean quote(Says says) {
        String text = sections.getOrDefault(says.in(), "");
        int from = text.indexOf(says.that());
        if (from >= 0) {
            quoted.get(says.in()).set(from, from + says.that().length());
        }
        return from >= 0;
    }

    private void look(String headings, String edges) {
        for (Map.Entry<String, String> section : sections.entrySet()) {
            if (section.getKey().matches(headings)) {
                Checks.at = section.getKey();
                Matcher edge = Pattern.compile(edges).matcher(section.getValue());
                while (edge.find()) {
                    int from = Math.max(0, edge.start() - 30);
                    int to = Math.min(section.getValue().length(), edge.end() + 30);
                    Checks.due("a test of .." + section.getValue().substring(from, to) + "..",
                        quoted.get(section.getKey()).get(edge.start()), true);
                }
            }
        }
    }
}
