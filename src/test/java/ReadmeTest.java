import java.io.ByteArrayOutputStream;
import java.io.IOException;
import java.io.PrintStream;
import java.lang.reflect.Method;
import java.lang.reflect.Modifier;
import java.net.URL;
import java.net.URLClassLoader;
import java.nio.charset.StandardCharsets;
import java.nio.file.Files;
import java.nio.file.Path;
import java.util.ArrayList;
import java.util.List;
import java.util.TreeSet;
import java.util.regex.Matcher;
import java.util.regex.Pattern;
import javax.tools.ToolProvider;

/** What README.md shows of the class holds; it is run from the project's folder, as by .ci/run. */
public final class ReadmeTest {
    private static final Pattern PRINTS = Pattern.compile("println\\(.*\\); +// (.*) \\(.*\\)");
    private static final Pattern ROW = Pattern.compile("\\| `(\\w+)\\(([^)]*)\\)` \\|.*");

    public static void main(String[] args) throws Exception {
        List<String> page = Files.readAllLines(Path.of("README.md"), StandardCharsets.UTF_8);
        dueRooms(firstBlock(page, "text"));
        dueProgram(firstBlock(page, "java"));
        dueCalls(page);
        Checks.end();
    }

    private static List<String> firstBlock(List<String> page, String kind) {
        int start = page.indexOf("```" + kind) + 1;
        Checks.due("a block of " + kind + " is there", start > 0, true);
        List<String> after = page.subList(start, page.size());
        return after.subList(0, Math.max(0, after.indexOf("```")));
    }

    /** The rooms stand row by row, each row drawn from the left to the right. */
    private static void dueRooms(List<String> picture) {
        HexRooms house = new HexRooms();
        Checks.due("rows of the picture", picture.size(), 5);
        for (int row = 0; row < picture.size(); row++) {
            StringBuilder due = new StringBuilder();
            for (int across = -2; across <= 2; across++) {
                int room = house.at(across, row - 2);
                due.append(room == -1 ? "" : room + " ");
            }
            Checks.due("row " + row + " of the picture",
                    picture.get(row).trim().replaceAll(" +", " "), due.toString().trim());
        }
    }

    /** The program is compiled as it stands there, and prints what stands behind its lines. */
    private static void dueProgram(List<String> lines) throws Exception {
        List<String> due = new ArrayList<>();
        for (String line : lines) {
            Matcher prints = PRINTS.matcher(line);
            if (prints.find()) {
                due.add(prints.group(1));
            } else {
                Checks.due("what it prints is told: " + line, line.contains("println"), false);
            }
        }
        Checks.due("the program prints", due.isEmpty(), false);
        Path folder = Files.createTempDirectory("readme");
        try {
            Checks.due("the program", printed(folder, lines), String.join("\n", due));
        } finally {
            delete(folder);
        }
    }

    private static String printed(Path folder, List<String> lines) throws Exception {
        Path source = folder.resolve("Evening.java");
        Files.write(source, lines, StandardCharsets.UTF_8);
        int fault = ToolProvider.getSystemJavaCompiler().run(null, null, null, "--release", "17",
                "-cp", System.getProperty("java.class.path"), "-d", folder.toString(),
                source.toString());
        if (fault != 0) {
            return "does not compile";
        }
        PrintStream out = System.out;
        ByteArrayOutputStream seen = new ByteArrayOutputStream();
        try (URLClassLoader loader = new URLClassLoader(new URL[] {folder.toUri().toURL()})) {
            System.setOut(new PrintStream(seen, true, StandardCharsets.UTF_8));
            loader.loadClass("Evening").getMethod("main", String[].class)
                    .invoke(null, (Object) new String[0]);
        } finally {
            System.setOut(out);
        }
        return String.join("\n", seen.toString(StandardCharsets.UTF_8).lines().toList());
    }

    private static void delete(Path folder) throws IOException {
        try (var files = Files.list(folder)) {
            for (Path file : files.toList()) {
                Files.delete(file);
            }
        }
        Files.delete(folder);
    }

    /** Each public call has a row of the table, with as many arguments, and no other call has. */
    private static void dueCalls(List<String> page) {
        TreeSet<String> told = new TreeSet<>();
        for (String line : page) {
            Matcher row = ROW.matcher(line);
            if (row.matches()) {
                int arguments = row.group(2).isEmpty() ? 0 : row.group(2).split(",").length;
                told.add(row.group(1) + " of " + arguments);
            }
        }
        TreeSet<String> due = new TreeSet<>();
        for (Method method : HexRooms.class.getDeclaredMethods()) {
            if (Modifier.isPublic(method.getModifiers())) {
                due.add(method.getName() + " of " + method.getParameterCount());
            }
        }
        Checks.due("the calls in the table", told.toString(), due.toString());
    }
}
