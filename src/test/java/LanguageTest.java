import java.lang.reflect.Constructor;
import java.lang.reflect.Field;
import java.lang.reflect.Method;
import java.lang.reflect.Modifier;
import java.nio.charset.StandardCharsets;
import java.nio.file.Files;
import java.nio.file.Paths;
import java.util.Set;
import java.util.TreeSet;
import java.util.regex.Matcher;
import java.util.regex.Pattern;

/** What of ../shared/LANGUAGE.md can be seen from the source and the compiled class. */
public final class LanguageTest {
    private static final String SOURCE = "src/main/java/DeltaNests.java";
    private static final String FACE = "feed end text fault by delay set clear reset send day played years undo values entry context"
        + " cloud knows delta of acked flight is book foretold need would digest same below join all parts unlike spared winner torn"
        + " fields sum share behind freshest quiet till speaks said whose ledger image back about";
    private static int wrong = 0;

    public static void main(String[] args) throws Exception {
        String source = new String(Files.readAllBytes(Paths.get(SOURCE)), StandardCharsets.ISO_8859_1);
        words(source.replaceAll("(?s)/\\*.*?\\*/", "").replaceAll("//[^\n]*", "").replaceAll("\"[^\"\n]*\"", "\"\""));
        lengths(source);
        face();
        for (Class<?> inside : DeltaNests.class.getDeclaredClasses()) {
            int of = inside.getModifiers();
            hold(Modifier.isStatic(of) && !Modifier.isPublic(of) && !Modifier.isProtected(of), "class " + inside.getName());
            sizes(inside);
        }
        sizes(DeltaNests.class);
        hold(DeltaNests.class.getDeclaredClasses().length <= 11, "twelve classes");
        System.out.println(wrong == 0 ? "language: all holds" : "language: " + wrong + " rules are broken");
        if (wrong != 0) {
            System.exit(1);
        }
    }

    private static void hold(boolean good, String what) {
        if (!good) {
            wrong++;
            System.out.println("language: " + what);
        }
    }

    private static void words(String code) {
        String[] none = {"\\bthrow", "\\btry\\b", "\\bcatch\\b", "\\bfinally\\b", "\\bsynchronized\\b", "\\bassert\\b", "->", "::",
            "Exact\\b", "\\bRandom\\b", "\\bThread\\b", "\\bnanoTime", "\\bcurrentTimeMillis", "System\\.(?!arraycopy)",
            "\\bpackage\\b", "@", "\"\" *\\+", "\\+ *\"\"", "\\bvar\\b", "\\bprotected\\b", "Object\\b", "Exception\\b"};
        for (String pattern : none) {
            Matcher matcher = Pattern.compile(pattern).matcher(code);
            hold(!matcher.find(), pattern + " stands in the source");
        }
        Matcher imports = Pattern.compile("import ([^;]*);").matcher(code);
        while (imports.find()) {
            hold(imports.group(1).equals("java.util.Arrays"), "import " + imports.group(1));
        }
    }

    private static void lengths(String source) {
        String[] lines = source.split("\n");
        int start = -1;
        for (int i = 0; i < lines.length; i++) {
            if (lines[i].matches("(    |        )(public|private|static|boolean|int|void|[A-Z][A-Za-z]*)\\b[^;=]*\\) \\{")) {
                start = i;
            }
            if (start >= 0 && lines[i].equals(lines[start].replaceAll("\\S.*", "") + "}")) {
                hold(i - start < 60, "lines of " + lines[start].trim());
                start = -1;
            }
        }
    }

    private static void face() {
        int of = DeltaNests.class.getModifiers();
        hold(Modifier.isPublic(of) && Modifier.isFinal(of), "public and final");
        Set<String> due = new TreeSet<>(Set.of(FACE.split(" ")));
        Set<String> open = new TreeSet<>();
        for (Method method : DeltaNests.class.getDeclaredMethods()) {
            if (Modifier.isPublic(method.getModifiers())) {
                open.add(method.getName());
            } else if (!method.isSynthetic()) {
                hold(Modifier.isPrivate(method.getModifiers()), "private " + method.getName());
                hold(!due.contains(method.getName()), "a public one's name " + method.getName());
            }
        }
        hold(due.equals(open), "the face " + open);
        for (Field field : DeltaNests.class.getDeclaredFields()) {
            hold(field.getName().equals("NONE") || Modifier.isPrivate(field.getModifiers()), "private " + field.getName());
        }
        Constructor<?>[] made = DeltaNests.class.getDeclaredConstructors();
        hold(made.length == 1 && Modifier.isPublic(made[0].getModifiers()), "one constructor");
    }

    private static void sizes(Class<?> type) {
        int fields = 0;
        for (Field field : type.getDeclaredFields()) {
            boolean isStatic = Modifier.isStatic(field.getModifiers());
            hold(!isStatic || Modifier.isFinal(field.getModifiers()), "final " + field.getName());
            fields += isStatic ? 0 : 1;
        }
        hold(fields <= 20, "fields of " + type.getName());
        for (Method method : type.getDeclaredMethods()) {
            hold(method.getParameterCount() <= 7, "parameters of " + method.getName());
        }
    }
}
