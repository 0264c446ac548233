import java.io.IOException;
import java.lang.reflect.Method;
import java.lang.reflect.Modifier;
import java.nio.file.Files;
import java.nio.file.Path;
import java.util.ArrayList;
import java.util.Comparator;
import java.util.List;
import java.util.Set;
import java.util.TreeSet;
import java.util.concurrent.TimeUnit;
import java.util.regex.Matcher;
import java.util.regex.Pattern;
import java.util.stream.Stream;

/** README.md: its example, its list of calls, its way to run the tests; and .ci/run, which is that way. */
public final class ReadmeTests {
    private static final Path README = Path.of("README.md");
    private static final Path SCRIPT = Path.of(".ci/run");
    private static final Path TESTS = Path.of("src/test/java");
    private static final int LONGEST_SECONDS = 120;

    private static final String KEPT = "System.out.println(TwoTowns.NONE);";
    private static final String BROKEN = "System.out.println(\"wrong\"); System.exit(1);";
    private static final String UNREADABLE = "int number = \"no number\";";
    private static final String WARNED = "java.util.List raw = new java.util.ArrayList<String>();";

    private static int looked = 0;
    private static int wrong = 0;

    public static void main(String[] args) throws Exception {
        String readme = Files.readString(README);
        Path room = Files.createTempDirectory("readme");
        try {
            example(readme, room);
            calls(readme);
            testsNamed(readme);
            commands(readme, room);
            script(room);
        } finally {
            remove(room);
        }
        System.out.println(looked + " things looked at, " + wrong + " wrong");
        if (wrong != 0) {
            System.exit(1);
        }
    }

    // ---- what the page says of the class ----

    /** By the page's own commands the program compiles and prints what the page says. */
    private static void example(String readme, Path room) throws Exception {
        List<String> programs = blocks(readme, "java");
        List<String> printed = blocks(readme, "text");
        same("programs on the page", programs.size(), 1);
        same("their answers on the page", printed.size(), 1);
        Path project = copyOfSources(room.resolve("example"));
        Files.writeString(project.resolve("Example.java"), programs.get(0));
        same("the example's answers", answers(project, blocks(readme, "sh").get(0), 0), printed.get(0));
    }

    /** The table names each call of the face once, and no other. */
    private static void calls(String readme) {
        Set<String> face = new TreeSet<>();
        for (Method m : TwoTowns.class.getDeclaredMethods()) {
            if (Modifier.isPublic(m.getModifiers())) {
                face.add(m.getName());
            }
        }
        List<String> named = new ArrayList<>();
        for (String line : readme.split("\n")) {
            if (line.startsWith("| ")) {
                named.addAll(found("`(\\w+)`", line));
            }
        }
        same("calls named", new TreeSet<>(named), face);
        same("calls named once", named.size(), face.size());
    }

    // ---- what the page says of the tests ----

    private static void testsNamed(String readme) throws IOException {
        Set<String> there = new TreeSet<>();
        try (Stream<Path> files = Files.list(TESTS)) {
            files.forEach(f -> there.add(f.getFileName().toString().replace(".java", "")));
        }
        same("tests named", new TreeSet<>(found("(?m)^- `(\\w+)`:", readme)), there);
    }

    /** The page tells to run .ci/run, and for one test alone the same commands as .ci/run has. */
    private static void commands(String readme, Path room) throws Exception {
        List<String> told = blocks(readme, "sh");
        same("commands on the page", told.size(), 3);
        same("how to run all", told.get(1), SCRIPT + "\n");
        same(".ci/run may be run", Files.isExecutable(SCRIPT), true);
        String script = Files.readString(SCRIPT).replace("\\\n", " ");
        String inScript = String.join("\n", found("\\b(javac? -[^;&\n]*)", script));
        String asTold = inScript.replace("\"$build/$name\"", "build")
                .replace("\"$test\"", TESTS + "/PromiseTests.java").replace("\"$name\"", "PromiseTests");
        same("how to run one", told.get(2).strip(), asTold.replaceAll(" +", " ").replaceAll("(?m) $", ""));
        Path project = copyOfSources(room.resolve("one"));
        String printed = answers(project, told.get(2), 0);
        same("one test's answers", printed.matches("\\d+ answers looked at, 0 wrong\n"), true);
    }

    // ---- .ci/run on small projects ----

    private static void script(Path room) throws Exception {
        tried(room, "both kept", KEPT, KEPT, "2 passed, 0 failed", 0);
        tried(room, "the project's test fails", BROKEN, KEPT, "1 passed, 1 failed", 1);
        tried(room, "the shared test fails", KEPT, BROKEN, "1 passed, 1 failed", 1);
        tried(room, "a test does not compile", KEPT, UNREADABLE, "1 passed, 1 failed", 1);
        tried(room, "a test compiles with a warning", WARNED, KEPT, "1 passed, 1 failed", 1);
        tried(room, "no test", null, null, "0 passed, 0 failed", 1);
    }

    private static void tried(Path room, String name, String own, String shared, String last, int code)
            throws Exception {
        Path place = Files.createDirectories(room.resolve(name.replace(' ', '-')));
        Path project = place.resolve("main");
        write(project.resolve("src/main/java/TwoTowns.java"),
                "public final class TwoTowns { public static final int NONE = -1; public TwoTowns() { } }");
        Files.createDirectories(project.resolve(".ci"));
        Files.copy(SCRIPT, project.resolve(SCRIPT));
        same(name + ": may be run", project.resolve(SCRIPT).toFile().setExecutable(true), true);
        writeTest(project.resolve("src/test/java"), "OwnTests", own);
        writeTest(place.resolve("shared/tests"), "SharedRuns", shared);
        String printed = answers(project, SCRIPT.toString(), code);
        same(name + ": last line", printed.endsWith(last + "\n"), true);
        saysOf(name, "OwnTests", own, printed);
        saysOf(name, "SharedRuns", shared, printed);
        try (Stream<Path> left = Files.list(project)) {
            same(name + ": files left behind", left.count(), 2L);
        }
    }

    private static void saysOf(String name, String test, String body, String printed) {
        same(name + ": " + test + " ok", printed.contains("ok: " + test), KEPT.equals(body));
        same(name + ": " + test + " failed", printed.contains("FAILED: " + test), body != null && !KEPT.equals(body));
    }

    private static void writeTest(Path place, String name, String body) throws IOException {
        Files.createDirectories(place);
        if (body != null) {
            write(place.resolve(name + ".java"),
                    "public final class " + name + " { public static void main(String[] args) { " + body + " } }");
        }
    }

    // ---- helpers ----

    private static void same(String what, Object got, Object want) {
        looked++;
        if (!got.equals(want)) {
            wrong++;
            System.out.println(what + ": " + got + "\n    due is: " + want);
        }
    }

    /** What stands between the fences of a kind. */
    private static List<String> blocks(String page, String kind) {
        return found("(?s)```" + kind + "\n(.*?)```", page);
    }

    private static List<String> found(String pattern, String text) {
        List<String> all = new ArrayList<>();
        Matcher m = Pattern.compile(pattern).matcher(text);
        while (m.find()) {
            all.add(m.group(1));
        }
        return all;
    }

    /** What commands print; if they end otherwise than is due, what they complain of is shown. */
    private static String answers(Path where, String commands, int dueCode) throws Exception {
        Path printed = where.resolve("../printed.txt");
        Path complained = where.resolve("../complained.txt");
        Process process = new ProcessBuilder("bash", "-e", "-c", commands).directory(where.toFile())
                .redirectOutput(printed.toFile()).redirectError(complained.toFile()).start();
        boolean ended = process.waitFor(LONGEST_SECONDS, TimeUnit.SECONDS);
        if (!ended) {
            process.destroyForcibly();
        }
        int code = ended ? process.exitValue() : -1;
        same("exit code of " + commands, code, dueCode);
        if (code != dueCode) {
            System.out.println(Files.readString(complained));
        }
        return Files.readString(printed);
    }

    private static Path copyOfSources(Path project) throws IOException {
        for (String file : new String[] {"src/main/java/TwoTowns.java", "src/test/java/PromiseTests.java"}) {
            write(project.resolve(file), Files.readString(Path.of(file)));
        }
        return project;
    }

    private static void write(Path file, String text) throws IOException {
        Files.createDirectories(file.getParent());
        Files.writeString(file, text);
    }

    private static void remove(Path directory) throws IOException {
        try (Stream<Path> all = Files.walk(directory)) {
            for (Path path : all.sorted(Comparator.reverseOrder()).toList()) {
                Files.delete(path);
            }
        }
    }
}
