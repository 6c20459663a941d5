import java.lang.reflect.Method;
import java.lang.reflect.Modifier;
import java.net.URL;
import java.net.URLClassLoader;
import java.nio.file.Files;
import java.nio.file.Path;
import java.util.ArrayList;
import java.util.Comparator;
import java.util.HashSet;
import java.util.List;
import java.util.Set;
import java.util.TreeSet;
import java.util.regex.Matcher;
import java.util.regex.Pattern;
import java.util.stream.Stream;

/** What README.md says is so: its calls answer as it says, its commands run, its list of tests is whole. */
public final class ReadmeTest {
    private static final Path MAIN = Path.of("src/main/java/CaneHouse.java");
    private static final Path TESTS = Path.of("src/test/java");
    private static final Pattern BLOCK = Pattern.compile("(?ms)^```(\\w+)\n(.*?)^```$");
    /** A call, kept by a name or not, and behind it what it answers. */
    private static final Pattern CALL = Pattern.compile(
            "(?:(int|long) (\\w+) = )?(house\\.(\\w+)\\([^;]*\\));\\s*// (-?\\d+|BAD|STATE|FULL|NONE)(?::.*)?");
    private static final String NEW_HOUSE = "CaneHouse house = new CaneHouse();";
    private static final Check check = new Check("ReadmeTest");

    public static void main(String[] args) throws Exception {
        String readme = Files.readString(Path.of("README.md"));
        Path folder = Files.createTempDirectory("readme");
        try {
            calls(blocks(readme, "java"), folder);
        } finally {
            remove(folder);
        }
        commands(blocks(readme, "sh"));
        listOfTests(readme);
        numbersInText(readme);
        check.finish();
    }

    private static List<String> blocks(String readme, String kind) {
        List<String> found = new ArrayList<>();
        Matcher all = BLOCK.matcher(readme);
        while (all.find()) {
            if (all.group(1).equals(kind)) {
                found.add(all.group(2));
            }
        }
        check.holds("there is a block of " + kind, !found.isEmpty());
        return found;
    }

    /** The lines as one program, compiled with the class alone, as a reader would do. */
    private static void calls(List<String> blocks, Path folder) throws Exception {
        Set<String> shown = new HashSet<>();
        StringBuilder body = new StringBuilder();
        for (String block : blocks) {
            for (String line : block.split("\n")) {
                body.append(asked(line, shown)).append('\n');
            }
        }
        for (Method m : CaneHouse.class.getDeclaredMethods()) {
            if (Modifier.isPublic(m.getModifiers())) {
                check.holds(m.getName() + " is shown", shown.contains(m.getName()));
            }
        }
        Path source = folder.resolve("Shown.java");
        Files.writeString(source, "public final class Shown {\n"
                + "  public static void ask(java.util.List<Object[]> rows) {\n" + body + "  }\n}\n");
        if (succeeds("javac", "-encoding", "UTF-8", "-d", folder.toString(), MAIN.toString(), source.toString())) {
            compare(folder);
        }
    }

    private static void compare(Path folder) throws Exception {
        List<Object[]> rows = new ArrayList<>();
        URL[] where = {folder.toUri().toURL()};
        try (URLClassLoader loader = new URLClassLoader(where, ClassLoader.getPlatformClassLoader())) {
            loader.loadClass("Shown").getMethod("ask", List.class).invoke(null, rows);
        }
        for (Object[] row : rows) {
            check.due((String) row[0], (Long) row[1], (Long) row[2]);
        }
        check.holds("no more than a house's 512 calls", rows.size() <= 512);
    }

    /** The line as it stands, and behind it a row with the call, its answer, and the one that is told. */
    private static String asked(String line, Set<String> shown) {
        if (line.isBlank() || line.equals(NEW_HOUSE)) {
            return line;
        }
        Matcher call = CALL.matcher(line);
        if (!call.matches()) {
            check.holds("the line is a call with its answer: " + line, false);
            return "";
        }
        shown.add(call.group(4));
        boolean isName = Character.isLetter(call.group(5).charAt(0));
        String due = isName ? "CaneHouse." + call.group(5) : call.group(5);
        String kept = call.group(2) == null ? "" : call.group(1) + " " + call.group(2) + " = " + call.group(3) + ";";
        String got = call.group(2) == null ? call.group(3) : call.group(2);
        return kept + " rows.add(new Object[] {\"" + call.group(3) + "\", (long) " + got + ", (long) " + due + "});";
    }

    /** All commands but the one that runs this test. */
    private static void commands(List<String> blocks) throws Exception {
        boolean isRunShown = false;
        for (String block : blocks) {
            if (block.trim().equals(".ci/run")) {
                isRunShown = true;
            } else {
                succeeds("bash", "-ec", block);
            }
        }
        check.holds("it shows how to run all tests", isRunShown);
        check.holds(".ci/run can be run", Files.isExecutable(Path.of(".ci/run")));
    }

    private static boolean succeeds(String... command) throws Exception {
        Process p = new ProcessBuilder(command).redirectErrorStream(true).start();
        String told = new String(p.getInputStream().readAllBytes());
        int rc = p.waitFor();
        check.due(String.join(" ", command) + " (" + told.trim() + ")", rc, 0);
        return rc == 0;
    }

    private static void listOfTests(String readme) throws Exception {
        Set<String> lying = new TreeSet<>();
        try (Stream<Path> files = Files.walk(TESTS)) {
            files.map(f -> f.getFileName().toString()).filter(n -> n.endsWith(".java"))
                    .forEach(n -> lying.add(n.replace(".java", "")));
        }
        for (String name : lying) {
            check.holds("README.md tells what " + name + " is for", readme.contains("`" + name + "`"));
        }
        Matcher told = Pattern.compile("`(\\w+Test)`").matcher(readme);
        while (told.find()) {
            check.holds(told.group(1) + " lies under " + TESTS, lying.contains(told.group(1)));
        }
    }

    private static void numbersInText(String readme) {
        Matcher told = Pattern.compile("`CaneHouse\\.([A-Z]+)` \\((-?\\d+)\\)").matcher(readme);
        Set<String> names = new TreeSet<>();
        while (told.find()) {
            names.add(told.group(1));
            check.due(told.group(1), Integer.parseInt(told.group(2)), constant(told.group(1)));
        }
        check.due("constants that README.md tells", names.size(), 4);
    }

    private static int constant(String name) {
        switch (name) {
            case "BAD": return CaneHouse.BAD;
            case "STATE": return CaneHouse.STATE;
            case "FULL": return CaneHouse.FULL;
            case "NONE": return CaneHouse.NONE;
            default: return 0;
        }
    }

    private static void remove(Path folder) throws Exception {
        try (Stream<Path> files = Files.walk(folder)) {
            for (Path f : (Iterable<Path>) files.sorted(Comparator.reverseOrder())::iterator) {
                Files.delete(f);
            }
        }
    }
}
