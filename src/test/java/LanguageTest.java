import java.lang.reflect.Constructor;
import java.lang.reflect.Field;
import java.lang.reflect.Method;
import java.lang.reflect.Modifier;
import java.nio.file.Files;
import java.nio.file.Path;
import java.util.ArrayList;
import java.util.Arrays;
import java.util.List;
import java.util.TreeSet;
import java.util.regex.Matcher;
import java.util.regex.Pattern;

/** The rules of LANGUAGE.md that can be seen in the source or in the compiled classes. */
public final class LanguageTest {
    private static final Checks C = new Checks("LanguageTest");

    private static final String FACE = "feed(long) end(int) text() fault() rule(int) day(int) weight(int) page(int) "
        + "gap(int) near(int) book(int) write(int,int) undo(int) may() means(int) cheap(int) ring(int) holds() tell(int) "
        + "cut(int) judge(int) ask(int) drop(int) plan(int) byRule(int) worst(int,int) mean(int,int) reads(int,int) "
        + "alike(int) stay(int,int) serve() putOff(int) forgotten(int,int,int) keep(int) back(int) sheet(int,int,int) "
        + "lay(int,int,int) read(int,int,int,int) torn() count(int)";

    private static void face() {
        Class<?> x = NeverAgain.class;
        TreeSet<String> found = new TreeSet<>();
        TreeSet<String> names = new TreeSet<>();
        for (Method m : x.getDeclaredMethods()) {
            if (Modifier.isPublic(m.getModifiers())) {
                List<String> types = new ArrayList<>();
                for (Class<?> p : m.getParameterTypes()) {
                    types.add(p.getName());
                }
                found.add(m.getName() + "(" + String.join(",", types) + ")");
                names.add(m.getName());
                boolean answersLong = m.getName().equals("mean");
                C.due("1 type of " + m, m.getReturnType() == (answersLong ? long.class : int.class));
            } else {
                C.due("1 private " + m, Modifier.isPrivate(m.getModifiers()));
            }
        }
        C.due("1 the face is " + found, found.equals(new TreeSet<>(Arrays.asList(FACE.split(" ")))));
        privateNames(x, names);
        for (Field f : x.getDeclaredFields()) {
            boolean constant = List.of("BAD", "STATE", "FULL", "NONE").contains(f.getName());
            C.due("1 field " + f, constant ? Modifier.isPublic(f.getModifiers()) : Modifier.isPrivate(f.getModifiers()));
        }
        C.due("1 constructors", 1, x.getDeclaredConstructors().length);
        for (Constructor<?> c : x.getDeclaredConstructors()) {
            C.due("1 constructor", Modifier.isPublic(c.getModifiers()) && c.getParameterCount() == 0);
        }
        C.due("1 public final", Modifier.isFinal(x.getModifiers()) && Modifier.isPublic(x.getModifiers()));
    }

    private static void privateNames(Class<?> x, TreeSet<String> names) {
        for (Method m : x.getDeclaredMethods()) {
            boolean hidden = !Modifier.isPublic(m.getModifiers());
            C.due("1 the name of private " + m, !(hidden && names.contains(m.getName())));
            C.due("11 parameters of " + m, m.getParameterCount() <= 7);
        }
        for (Class<?> inside : x.getDeclaredClasses()) {
            C.due("2 static " + inside, Modifier.isStatic(inside.getModifiers()) || inside.isInterface());
            int fields = 0;
            for (Field f : inside.getDeclaredFields()) {
                fields += Modifier.isStatic(f.getModifiers()) ? 0 : 1;
                C.due("5 static and final " + f, !Modifier.isStatic(f.getModifiers()) || Modifier.isFinal(f.getModifiers()));
            }
            C.due("11 fields of " + inside, fields <= 20);
            for (Method m : inside.getDeclaredMethods()) {
                C.due("1 the name of " + m, !names.contains(m.getName()));
                C.due("11 parameters of " + m, m.getParameterCount() <= 7);
            }
        }
        C.due("11 classes", x.getDeclaredClasses().length < 12);
    }

    private static String code(String source) {
        return source.replaceAll("(?s)/\\*.*?\\*/", "").replaceAll("//[^\n]*", "").replaceAll("\"[^\"\n]*\"", "\"\"");
    }

    private static void words(String code) {
        String[] banned = {"throw", "throws", "try", "catch", "synchronized", "assert", "package", "native", "volatile",
            "transient", "Object", "Thread", "Random", "Exception", "hashCode", "var", "double", "float", "\\w+Exact"};
        for (String word : banned) {
            C.due("no " + word, !Pattern.compile("\\b" + word + "\\b").matcher(code).find());
        }
        C.due("no lambda or method reference", !code.contains("->") && !code.contains("::"));
        Matcher imports = Pattern.compile("import\\s+([\\w.]+)\\s*;").matcher(code);
        while (imports.find()) {
            C.due("4 import " + imports.group(1), imports.group(1).equals("java.util.Arrays"));
        }
        Matcher library = Pattern.compile("\\b(Arrays|System|Math|Integer|Long)\\.(\\w+)").matcher(code);
        while (library.find()) {
            String call = library.group(1) + "." + library.group(2);
            boolean listed = List.of("Arrays.fill", "System.arraycopy", "Math.max", "Math.min", "Integer.bitCount").contains(call);
            C.due("4 " + call, listed);
        }
        // What is made is made once: by a constructor or where a field is told.
        Matcher made = Pattern.compile("[^\n]*\\bnew \\w+[^\n]*").matcher(code);
        while (made.find()) {
            String line = made.group().trim();
            boolean once = line.matches("(private )?final [\\w\\[\\]]+ \\w+ = new .*") || line.matches("\\w+(\\[k\\])? = new .*");
            C.due("12 made once: " + line, once);
        }
    }

    private static void lengths(String source) {
        String[] lines = source.split("\n");
        int start = -1;
        String indent = "";
        for (int i = 0; i < lines.length; i++) {
            Matcher head = Pattern.compile("^(    |        )(?! )[\\w\\[\\] ]+\\([^;]*\\) \\{$").matcher(lines[i]);
            if (head.find()) {
                start = i;
                indent = head.group(1);
            }
            if (start >= 0 && lines[i].equals(indent + "}")) {
                C.due("11 lines of " + lines[start].trim() + " " + (i - start + 1), i - start + 1 <= 60);
                start = -1;
            }
            C.due("3 signs of line " + (i + 1), lines[i].chars().allMatch(c -> c >= 32 && c < 127));
        }
    }

    public static void main(String[] args) throws Exception {
        face();
        String source = Files.readString(Path.of("src/main/java/NeverAgain.java"));
        words(code(source));
        lengths(source);
        C.close();
    }
}
