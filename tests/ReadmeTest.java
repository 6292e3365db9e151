import java.io.File;
import java.io.IOException;
import java.lang.reflect.Method;
import java.lang.reflect.Modifier;
import java.nio.charset.StandardCharsets;
import java.nio.file.Files;
import java.nio.file.Path;
import java.util.ArrayList;
import java.util.Arrays;
import java.util.List;
import java.util.TreeSet;
import java.util.regex.Matcher;
import java.util.regex.Pattern;

/**
 * README.md holds when it is done as written there: its example is saved, compiled and run by its
 * own commands, in a copy of the folder. Its tables name each call and each test.
 */
public final class ReadmeTest {
    private static String page = "";

    public static void main(String[] args) throws IOException, InterruptedException {
        page = Files.readString(Path.of("README.md"), StandardCharsets.UTF_8);
        List<String> commands = blocks("sh");
        Check.same("the README's commands", commands.size(), 2);
        Path folder = Files.createTempDirectory("readme");
        try {
            copyTo(folder);
            Files.writeString(folder.resolve("Example.java"), blocks("java").get(0));
            Check.same("the example prints", run(folder, commands.get(0)), blocks("text").get(0));
            String told = run(folder, commands.get(1));
            Check.same("one test alone: " + told, told.endsWith(", 0 wrong\n"), true);
        } finally {
            delete(folder.toFile());
        }
        namesEachCall();
        namesEachTest();
        Check.finish("ReadmeTest");
    }

    private static List<String> blocks(String kind) {
        List<String> found = new ArrayList<>();
        Matcher block = Pattern.compile("(?s)\n```" + kind + "\n(.*?)```\n").matcher(page);
        while (block.find()) {
            found.add(block.group(1));
        }
        return found;
    }

    private static void copyTo(Path folder) throws IOException {
        Path source = Path.of("src", "main", "java");
        Files.createDirectories(folder.resolve(source));
        Files.copy(source.resolve("FerroDesk.java"),
                folder.resolve(source).resolve("FerroDesk.java"));
        Files.createDirectories(folder.resolve("tests"));
        for (File test : filesOf("tests")) {
            Files.copy(test.toPath(), folder.resolve("tests").resolve(test.getName()));
        }
    }

    private static File[] filesOf(String folder) {
        File[] files = new File(folder).listFiles((in, name) -> name.endsWith(".java"));
        return files == null ? new File[0] : files;
    }

    /** What the commands of a block print, up to the first one that fails. */
    private static String run(Path folder, String block) throws IOException, InterruptedException {
        StringBuilder printed = new StringBuilder();
        for (String line : block.split("\n")) {
            List<String> words = new ArrayList<>(Arrays.asList(line.split(" ")));
            if (words.remove("tests/*.java")) {
                for (File test : filesOf("tests")) {
                    words.add("tests/" + test.getName());
                }
            }
            ProcessBuilder command = new ProcessBuilder(words);
            command.directory(folder.toFile()).redirectError(ProcessBuilder.Redirect.INHERIT);
            Process process = command.start();
            byte[] told = process.getInputStream().readAllBytes();
            printed.append(new String(told, StandardCharsets.UTF_8));
            int status = process.waitFor();
            Check.same(line + " ends with", status, 0);
            if (status != 0) {
                break;
            }
        }
        return printed.toString();
    }

    private static void delete(File file) {
        File[] inside = file.listFiles();
        if (inside != null) {
            for (File below : inside) {
                delete(below);
            }
        }
        Check.same("deleted: " + file, file.delete(), true);
    }

    /** The names in the first cells of a table's rows. */
    private static TreeSet<String> namesUnder(String head) {
        TreeSet<String> names = new TreeSet<>();
        int start = page.indexOf("| " + head + " |");
        Check.same("a table of the " + head, start >= 0, true);
        String table = page.substring(Math.max(0, start)).split("\n\n")[0];
        for (String row : table.split("\n")) {
            Matcher name = Pattern.compile("`(\\w+)`").matcher(row.split("\\|")[1]);
            while (name.find()) {
                Check.same("named once: " + name.group(1), names.add(name.group(1)), true);
            }
        }
        return names;
    }

    private static void namesEachCall() {
        TreeSet<String> calls = new TreeSet<>();
        for (Method method : FerroDesk.class.getDeclaredMethods()) {
            if (Modifier.isPublic(method.getModifiers())) {
                calls.add(method.getName());
            }
        }
        Check.same("the calls", namesUnder("calls"), calls);
    }

    private static void namesEachTest() {
        TreeSet<String> tests = new TreeSet<>();
        for (File test : filesOf("tests")) {
            String name = test.getName().replace(".java", "");
            if (name.endsWith("Test")) {
                tests.add(name);
            }
        }
        Check.same("the tests", namesUnder("test"), tests);
    }
}
