import java.io.IOException;
import java.lang.reflect.Constructor;
import java.lang.reflect.Field;
import java.lang.reflect.Method;
import java.lang.reflect.Modifier;
import java.nio.file.Files;
import java.nio.file.Paths;
import java.util.HashSet;
import java.util.List;
import java.util.Set;
import java.util.regex.Pattern;

/** The class's face, and what of LANGUAGE.md a program can see. */
public final class LanguageTest {
    private static final Check CHECK = new Check("LanguageTest");
    private static final String FACE = "int status() int feed(int,int,int,int,int) int load(int) int fault(int) int many(int) "
        + "int node(int,int) int link(int,int,int) int topology(int,int,int) int would(int) int pick(int,int) "
        + "int bestWill(int) int least(int) int covers(int,int) int needed(int) int waste() int route(int,int,int) "
        + "int table(int) int goes(int,int,int) int far(int,int) int wrong(int,int) int told() int settles() "
        + "int path(int,int,int) int busy(int) int sure(int,int) int astray(int) int proves(int,int,int,int,int) "
        + "int spine(int) int cuts() int mends(int) int flood(int,int) int notice(int,int) int older(int,int) "
        + "int echo(int,int,int,int) int add(int) boolean turn(int,boolean) int will(int,int) "
        + "boolean ear(int,int,boolean) int set(int,int) int jam(int,int,int) int tick(int) int run(int,int,int) "
        + "int mark() int back()";
    private static final String[] FORBIDDEN = {"\\bthrows?\\b", "\\btry\\b", "\\bcatch\\b", "\\bsynchronized\\b", "\\bassert\\b",
        "->", "::", "\\bprotected\\b", "static \\{", "\\bequals\\(", "\\bhashCode\\b", "\\btoString\\b", "Exact\\b", "\\bpackage\\b",
        "\\bSystem\\.(?!arraycopy)", "\\bArrays\\.(?!fill)", "\\bMath\\.(?!(max|min|floorMod)\\b)", "\\bInteger\\.(?!bitCount)",
        "\\bimport (?!java\\.util\\.Arrays;)"};

    public static void main(String[] args) throws IOException {
        face();
        classesInside();
        List<String> lines = Files.readAllLines(Paths.get("src/main/java/ChosenRelays.java"));
        words(lines);
        shortMethods(lines);
        CHECK.end();
    }

    private static void face() {
        Set<String> want = new HashSet<>(List.of(FACE.split("(?<=\\)) ")));
        Set<String> names = new HashSet<>();
        for (Method method : ChosenRelays.class.getDeclaredMethods()) {
            if (Modifier.isPublic(method.getModifiers())) {
                StringBuilder told = new StringBuilder(method.getReturnType().getName()).append(' ').append(method.getName());
                String sep = "(";
                for (Class<?> type : method.getParameterTypes()) {
                    told.append(sep).append(type.getName());
                    sep = ",";
                }
                told.append(sep.equals("(") ? "()" : ")");
                CHECK.due("in the face: " + told, want.remove(told.toString()), true);
                names.add(method.getName());
            }
        }
        CHECK.due("missing in the face: " + want, want.size(), 0);
        for (Method method : ChosenRelays.class.getDeclaredMethods()) {
            boolean hidden = Modifier.isPrivate(method.getModifiers()) && !names.contains(method.getName());
            CHECK.due("private and of another name: " + method, hidden || Modifier.isPublic(method.getModifiers()), true);
        }
        for (Constructor<?> made : ChosenRelays.class.getDeclaredConstructors()) {
            CHECK.due("constructor " + made, Modifier.isPublic(made.getModifiers()) && made.getParameterCount() == 0, true);
        }
        for (Class<?> inside : ChosenRelays.class.getDeclaredClasses()) {
            for (Method method : inside.getDeclaredMethods()) {
                CHECK.due("of another name: " + method, names.contains(method.getName()), false);
            }
        }
    }

    private static void classesInside() {
        CHECK.due("public and final", ChosenRelays.class.getModifiers(), Modifier.PUBLIC | Modifier.FINAL);
        CHECK.due("at most twelve classes", ChosenRelays.class.getDeclaredClasses().length + 1 <= 12, true);
        fields(ChosenRelays.class);
        for (Class<?> inside : ChosenRelays.class.getDeclaredClasses()) {
            CHECK.due("static: " + inside, Modifier.isStatic(inside.getModifiers()), true);
            fields(inside);
            for (Method method : inside.getDeclaredMethods()) {
                CHECK.due("at most seven parameters: " + method, method.getParameterCount() <= 7, true);
            }
        }
    }

    private static void fields(Class<?> of) {
        int own = 0;
        for (Field field : of.getDeclaredFields()) {
            if (Modifier.isStatic(field.getModifiers())) {
                boolean constant = Modifier.isFinal(field.getModifiers()) && field.getType() == int.class;
                CHECK.due("a constant: " + field, constant, true);
            } else {
                own++;
            }
            boolean isNone = field.getName().equals("NONE") && of == ChosenRelays.class;
            boolean seen = of == ChosenRelays.class && !Modifier.isPrivate(field.getModifiers());
            CHECK.due("private: " + field, isNone || !seen, true);
        }
        CHECK.due("at most twenty fields: " + of, own <= 20, true);
    }

    private static void words(List<String> lines) {
        for (String line : lines) {
            boolean comment = line.trim().startsWith("//") || line.trim().startsWith("/*");
            for (String word : FORBIDDEN) {
                CHECK.due(word + " in " + line, !comment && Pattern.compile(word).matcher(line).find(), false);
            }
            // objects are made in constructors alone: a field gets them, or an element of marks
            if (line.contains("new ")) {
                CHECK.due("made in a constructor: " + line, line.trim().matches("(\\w+|marks\\[i\\]) = new [^;]*;"), true);
            }
            CHECK.due("signs of 127 at most: " + line, line.chars().allMatch(sign -> sign < 128), true);
        }
    }

    private static void shortMethods(List<String> lines) {
        int start = 0;
        for (int i = 0; i < lines.size(); i++) {
            String line = lines.get(i);
            boolean head = line.matches("( {4}| {8})[^ /}@].*\\) \\{") && !line.contains(" class ");
            if (head) {
                start = i;
            }
            if (line.matches("( {4}| {8})\\}") && start > 0) {
                CHECK.due("lines of " + lines.get(start).trim(), i - start <= 60, true);
            }
            if (line.matches(" {4}\\}")) {
                start = 0;
            }
        }
    }
}
