import java.io.File;
import java.io.IOException;
import java.lang.reflect.Method;
import java.lang.reflect.Modifier;
import java.nio.charset.StandardCharsets;
import java.nio.file.Files;
import java.nio.file.Path;
import java.util.ArrayList;
import java.util.List;
import java.util.TreeSet;

/** README.md: does what it says, as somebody who reads it would, in the project's directory. */
final class ReadmeTest {
    private static final Path DIRECTORY = Path.of("build", "readme");

    private static List<String> lines;

    public static void main(String[] args) throws IOException, InterruptedException {
        lines = Files.readAllLines(Path.of("README.md"), StandardCharsets.UTF_8);
        commands();
        calls();
        tests();
        Due.end();
    }

    /** All commands end well but .ci/run, which runs this test; the program prints what is told. */
    private static void commands() throws IOException, InterruptedException {
        Due.says("README.md: These commands compile and run it; it prints");
        Files.createDirectories(DIRECTORY);
        Path program = DIRECTORY.resolve("Crossing.java");
        Files.write(program, block("java"));
        boolean printed = false;
        for (String command : block("sh")) {
            if (command.equals(".ci/run")) {
                Due.same(".ci/run can be run", Files.isExecutable(Path.of(command)) ? 1 : 0, 1);
                continue;
            }
            List<String> out = done(command.replace(" Crossing.java", " " + program), command);
            if (command.endsWith(" Crossing")) {
                printed = true;
                Due.same(command + " prints what is told, but " + out, out.equals(block("text")) ? 1 : 0, 1);
            }
        }
        Due.same("README.md tells how to run its program", printed ? 1 : 0, 1);
    }

    private static List<String> done(String command, String told) throws IOException, InterruptedException {
        File out = DIRECTORY.resolve("out.txt").toFile();
        Process process = new ProcessBuilder(command.split(" ")).redirectErrorStream(true).redirectOutput(out).start();
        Due.same(told + " ends with", process.waitFor(), 0);
        return Files.readAllLines(out.toPath(), StandardCharsets.UTF_8);
    }

    private static void calls() {
        Due.says("README.md: calls, what they are for");
        TreeSet<String> face = new TreeSet<>();
        for (Method method : GreenMachines.class.getDeclaredMethods()) {
            if (Modifier.isPublic(method.getModifiers())) {
                face.add(method.getName());
            }
        }
        sameNames(names("| calls |"), face);
    }

    private static void tests() {
        Due.says("README.md: test, what it tests");
        TreeSet<String> files = new TreeSet<>();
        String[] found = new File("src/test/java").list();
        for (String file : found == null ? new String[0] : found) {
            if (file.endsWith("Test.java")) {
                files.add(file.substring(0, file.length() - ".java".length()));
            }
        }
        sameNames(names("| test |"), files);
    }

    private static void sameNames(TreeSet<String> told, TreeSet<String> there) {
        TreeSet<String> all = new TreeSet<>(told);
        all.addAll(there);
        Due.same("names that are told", told.isEmpty() ? 0 : 1, 1);
        for (String name : all) {
            Due.same(name + " is told", told.contains(name) ? 1 : 0, 1);
            Due.same(name + " is there", there.contains(name) ? 1 : 0, 1);
        }
    }

    /** The lines of all blocks of a kind. */
    private static List<String> block(String kind) {
        List<String> inside = new ArrayList<>();
        boolean open = false;
        for (String line : lines) {
            if (line.startsWith("```")) {
                open = line.equals("```" + kind);
            } else if (open) {
                inside.add(line);
            }
        }
        return inside;
    }

    /** The names in the first column of the table with this head. */
    private static TreeSet<String> names(String head) {
        TreeSet<String> names = new TreeSet<>();
        boolean open = false;
        for (String line : lines) {
            open = line.startsWith(head) || open && line.startsWith("|");
            String[] cells = line.split("\\|");
            if (open && cells.length > 1 && cells[1].contains("`")) {
                for (String name : cells[1].split(",")) {
                    names.add(name.replace("`", "").trim());
                }
            }
        }
        return names;
    }
}
