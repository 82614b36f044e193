import java.io.IOException;
import java.lang.reflect.Method;
import java.lang.reflect.Modifier;
import java.nio.file.Files;
import java.nio.file.Path;
import java.util.ArrayList;
import java.util.List;
import java.util.Set;
import java.util.TreeSet;
import java.util.regex.Matcher;
import java.util.regex.Pattern;
import java.util.stream.Stream;

/** What README.md tells is so: its examples, its calls, the lines of a text, its classes, its tests. */
public final class ReadmeTest extends Bell {
    private static final Checks C = new Checks("ReadmeTest");
    private static final String EXAMPLE_LINE = "bell\\.(\\w+)\\(([^)]*)\\);\\s*// (-?\\d+|NeverAgain\\.\\w+):? .*";

    private static List<String> all(String text, String pattern) {
        List<String> found = new ArrayList<>();
        Matcher m = Pattern.compile(pattern).matcher(text);
        while (m.find()) {
            found.add(m.group(1));
        }
        return found;
    }

    private static void examples(String readme) throws ReflectiveOperationException {
        List<String> blocks = all(readme, "(?s)```java\n(.*?)```");
        C.due("examples", 3, blocks.size());
        for (String block : blocks) {
            String[] lines = block.split("\n");
            C.due("an example begins with a new object: " + lines[0],
                lines[0].startsWith("NeverAgain bell = new NeverAgain();"));
            NeverAgain bell = new NeverAgain();
            for (int i = 1; i < lines.length; i++) {
                Matcher m = Pattern.compile(EXAMPLE_LINE).matcher(lines[i]);
                boolean known = m.matches();
                C.due("an example's line: " + lines[i], known);
                if (known) {
                    C.due(lines[i], valueOf(m.group(3)), called(bell, m.group(1), m.group(2)));
                }
            }
        }
    }

    private static long valueOf(String answer) throws ReflectiveOperationException {
        return answer.startsWith("NeverAgain.")
            ? NeverAgain.class.getField(answer.substring("NeverAgain.".length())).getInt(null) : Long.parseLong(answer);
    }

    private static long called(NeverAgain bell, String name, String told) throws ReflectiveOperationException {
        String[] parts = told.isBlank() ? new String[0] : told.split(",\\s*");
        for (Method m : NeverAgain.class.getMethods()) {
            if (m.getName().equals(name) && m.getParameterCount() == parts.length) {
                Object[] given = new Object[parts.length];
                for (int i = 0; i < parts.length; i++) {
                    long v = Long.decode(parts[i].replace("L", ""));
                    given[i] = m.getParameterTypes()[i] == long.class ? (Object) v : (Object) (int) v;
                }
                return ((Number) m.invoke(bell, given)).longValue();
            }
        }
        throw new NoSuchMethodException(name);
    }

    private static void calls(String readme) {
        String table = readme.substring(readme.indexOf("## Its calls"), readme.indexOf("## How it is built"));
        List<String> told = new ArrayList<>();
        for (String call : all(table, "\n\\| `(\\w+\\([^)]*\\))` \\|")) {
            told.add(call.replaceAll("(int|long) \\w+", "$1").replace(" ", ""));
        }
        Set<String> there = new TreeSet<>();
        for (Method m : NeverAgain.class.getDeclaredMethods()) {
            if (Modifier.isPublic(m.getModifiers())) {
                there.add(m.toString().replaceAll(".*NeverAgain\\.", ""));
            }
        }
        C.due("each call once", told.size(), new TreeSet<>(told).size());
        C.due("the calls are " + told, new TreeSet<>(told).equals(there));
        String[] answers = {"`BAD` -1", "`STATE` -2", "`FULL` -3", "`NONE` -4"};
        int[] values = {NeverAgain.BAD, NeverAgain.STATE, NeverAgain.FULL, NeverAgain.NONE};
        for (int i = 0; i < 4; i++) {
            C.due(answers[i], table.contains("| " + answers[i] + " |") && answers[i].endsWith(" " + values[i]));
        }
    }

    private static void linesOfText(String readme) {
        String table = readme.substring(readme.indexOf("| line | tells |"), readme.indexOf("Days may be read"));
        List<String> lines = all(table, "`([a-z]+ [^`]*;)`");
        C.due("lines", 11, lines.size());
        for (String line : lines) {
            String once = line.replaceAll("\\{ N \\} ", "");
            String more = line.replaceAll("[{}] ", "");
            C.due("told: " + once, 1, tell(new NeverAgain(), once.replaceAll("N", line.startsWith("most") ? "4" : "1")));
            C.due("told: " + more, 1, tell(new NeverAgain(), more.replaceAll("N", line.startsWith("most") ? "4" : "1")));
        }
    }

    private static void classesAndTests(String readme) throws IOException {
        String built = readme.substring(readme.indexOf("## How it is built"), readme.indexOf("## How to run"));
        Set<String> inside = new TreeSet<>();
        for (Class<?> c : NeverAgain.class.getDeclaredClasses()) {
            inside.add(c.getSimpleName());
        }
        C.due("the classes inside are " + inside, inside.equals(new TreeSet<>(all(built, "\n\\| `(\\w+)` \\|"))));
        String tests = readme.substring(readme.indexOf("## How to run"));
        Set<String> there = new TreeSet<>();
        try (Stream<Path> files = Files.list(Path.of("src/test/java"))) {
            files.map(f -> f.getFileName().toString()).filter(f -> f.endsWith("Test.java"))
                .forEach(f -> there.add(f.replace(".java", "")));
        }
        C.due("the tests are " + there, there.equals(new TreeSet<>(all(tests, "`(\\w+Test)`"))));
        for (String path : all(readme, "`((?:\\.\\./shared|src|support|\\.ci)/[\\w./]*)`")) {
            Path where = Path.of(path.startsWith("support/") ? "src/test/java/" + path : path);
            C.due("there is " + path, Files.exists(where));
        }
        C.due(".ci/run can be run", Files.isExecutable(Path.of(".ci/run")));
    }

    public static void main(String[] args) throws IOException, ReflectiveOperationException {
        String readme = Files.readString(Path.of("README.md"));
        examples(readme);
        calls(readme);
        linesOfText(readme);
        classesAndTests(readme);
        C.close();
    }
}
