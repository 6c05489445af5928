import java.io.IOException;
import java.lang.reflect.Method;
import java.lang.reflect.Modifier;
import java.nio.charset.StandardCharsets;
import java.nio.file.DirectoryStream;
import java.nio.file.Files;
import java.nio.file.Path;
import java.nio.file.Paths;
import java.util.ArrayList;
import java.util.List;

/** README.md: what it tells to do works and prints what it tells; each call and each test is named. */
public final class ReadmeTest {
    private static final Check CHECK = new Check("ReadmeTest");
    private static final String FENCE = "```";
    /** Not where a reader of the page keeps the program. */
    private static final String FOLDER = "build/readme";

    public static void main(String[] args) throws IOException, InterruptedException {
        List<String> lines = Files.readAllLines(Paths.get("README.md"));
        example(lines);
        calls(String.join("\n", lines));
        tests(String.join("\n", lines));
        CHECK.end();
    }

    /** The program, the commands behind it, and what it prints then. */
    private static void example(List<String> lines) throws IOException, InterruptedException {
        List<String> program = block(lines, "java", 0);
        int behind = lines.indexOf(FENCE + "java") + program.size();
        List<String> commands = block(lines, "sh", behind);
        List<String> want = block(lines, "text", behind);
        CHECK.due("a program, commands, and what it prints",
            !program.isEmpty() && !commands.isEmpty() && !want.isEmpty(), true);
        Files.createDirectories(Paths.get(FOLDER));
        Files.write(Paths.get(FOLDER, "Example.java"), program);
        List<String> got = new ArrayList<>();
        for (String command : commands) {
            if (!runs(command.replace("build/example", FOLDER), got)) {
                return;
            }
        }
        for (int i = 0; i < Math.max(got.size(), want.size()); i++) {
            String has = i < got.size() ? got.get(i) : "nothing";
            String due = i < want.size() ? want.get(i) : "nothing";
            CHECK.due("the example prints " + has + ", the page tells " + due, has.equals(due), true);
        }
    }

    /** The first block of a kind from a line on. */
    private static List<String> block(List<String> lines, String kind, int from) {
        List<String> block = new ArrayList<>();
        boolean inside = false;
        for (String line : lines.subList(Math.max(0, from), lines.size())) {
            if (inside && line.equals(FENCE)) {
                return block;
            }
            if (inside) {
                block.add(line);
            }
            inside = inside || line.equals(FENCE + kind);
        }
        return block;
    }

    /** Puts what a command prints behind what was printed; what a failing one prints is told. */
    private static boolean runs(String command, List<String> got) throws IOException, InterruptedException {
        Process process = new ProcessBuilder("sh", "-c", command).redirectErrorStream(true).start();
        String all = new String(process.getInputStream().readAllBytes(), StandardCharsets.UTF_8);
        int code = process.waitFor();
        CHECK.due("exit code of " + command, code, 0);
        if (code != 0) {
            System.out.print(all);
        } else if (!all.isEmpty()) {
            got.addAll(List.of(all.split("\n")));
        }
        return code == 0;
    }

    private static void calls(String page) {
        for (Method method : ChosenRelays.class.getDeclaredMethods()) {
            if (Modifier.isPublic(method.getModifiers())) {
                String named = "`" + method.getName() + "()`";
                CHECK.due("the page names " + named, page.contains(named), true);
            }
        }
    }

    private static void tests(String page) throws IOException {
        try (DirectoryStream<Path> files = Files.newDirectoryStream(Paths.get("src/test/java"), "*Test.java")) {
            for (Path file : files) {
                String named = "`" + file.getFileName().toString().replace(".java", "") + "`";
                CHECK.due("the page names " + named, page.contains(named), true);
            }
        }
    }
}
