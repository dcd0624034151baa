import java.io.File;
import java.io.IOException;
import java.net.URL;
import java.net.URLClassLoader;
import java.nio.file.Files;
import java.nio.file.Path;
import java.util.ArrayList;
import java.util.Comparator;
import java.util.List;
import java.util.TreeSet;
import java.util.regex.Matcher;
import java.util.regex.Pattern;
import java.util.stream.Stream;
import javax.tools.JavaCompiler;
import javax.tools.ToolProvider;

/** What README.md shows is so when it is tried: its calls, its commands, its list of tests. */
public final class ReadmeTest {
    private static final Path README = Path.of("README.md");
    private static final Path TESTS = Path.of("src/test/java");

    /** A call with its answer behind it: "int b = x.book(100, 3);  // 0: ..". */
    private static final Pattern CALL = Pattern.compile(
            "(?:int (\\w+) = )?(.*\\));\\s*// (-?\\d+|UNKNOWN|OUTSIDE|STATE|FULL|NONE)\\b.*");

    public static void main(String[] args) throws Exception {
        String text = Files.readString(README);
        Path room = Files.createTempDirectory("readme");
        try {
            tryCalls(blocks(text, "java"), room);
            tryCommands(blocks(text, "sh"), room);
            refusalsAreTold(text);
            testsAreListed(text);
        } finally {
            remove(room);
        }
        Due.end();
    }

    private static List<String> blocks(String text, String sort) {
        List<String> found = new ArrayList<>();
        Matcher m = Pattern.compile("(?s)```" + sort + "\n(.*?)```").matcher(text);
        while (m.find()) {
            found.add(m.group(1));
        }
        return found;
    }

    /** Makes one program of all Java of the file, and compares what its calls answer. */
    private static void tryCalls(List<String> blocks, Path room) throws Exception {
        StringBuilder functions = new StringBuilder();
        StringBuilder rows = new StringBuilder();
        List<String> calls = new ArrayList<>();
        List<Integer> due = new ArrayList<>();
        for (String block : blocks) {
            if (block.startsWith("static ")) {
                functions.append(block);
                continue;
            }
            for (String row : block.split("\n")) {
                Matcher m = CALL.matcher(row);
                if (m.matches()) {
                    rows.append(keeping(m, calls.size()));
                    calls.add(m.group(2));
                    due.add(number(m.group(3)));
                } else {
                    rows.append(row).append('\n');
                }
            }
        }
        Due.due("README.md shows calls", calls.size() >= 40);
        int[] answers = run("public final class Shown {\n" + functions + "public static void main(int[] answers) {\n"
                + rows + "}\n}\n", calls.size(), room);
        for (int i = 0; i < answers.length; i++) {
            Due.due("README.md: " + calls.get(i), answers[i], due.get(i));
        }
    }

    /** The row of a call, which also keeps its answer. */
    private static String keeping(Matcher call, int i) {
        String kept = "answers[" + i + "] = ";
        if (call.group(1) == null) {
            return kept + call.group(2) + ";\n";
        }
        return "int " + call.group(1) + " = " + call.group(2) + ";\n" + kept + call.group(1) + ";\n";
    }

    private static int number(String answer) throws ReflectiveOperationException {
        return Character.isLetter(answer.charAt(0))
                ? TelegraphHouse.class.getField(answer).getInt(null) : Integer.parseInt(answer);
    }

    /** What the calls of a program answer; none if it does not compile, which is a wrong answer too. */
    private static int[] run(String program, int calls, Path room) throws Exception {
        JavaCompiler compiler = ToolProvider.getSystemJavaCompiler();
        if (compiler == null) {
            Due.due("there is a compiler", false);
            return new int[0];
        }
        Path source = room.resolve("Shown.java");
        Files.writeString(source, program);
        int code = compiler.run(null, System.out, System.out, "-encoding", "UTF-8", "-d", room.toString(),
                "-cp", System.getProperty("java.class.path"), source.toString());
        Due.due("javac of what README.md shows", code, 0);
        int[] answers = new int[code == 0 ? calls : 0];
        if (code == 0) {
            try (URLClassLoader loader = new URLClassLoader(new URL[] {room.toUri().toURL()})) {
                loader.loadClass("Shown").getMethod("main", int[].class).invoke(null, answers);
            }
        }
        return answers;
    }

    /** Every command but .ci/run, of which this test is a part. */
    private static void tryCommands(List<String> blocks, Path room) throws Exception {
        int tried = 0;
        for (String block : blocks) {
            if (block.strip().equals(".ci/run")) {
                Due.due(".ci/run can be run", Files.isExecutable(Path.of(".ci/run")));
                continue;
            }
            ProcessBuilder command = new ProcessBuilder("sh", "-e", "-c", block);
            command.environment().put("TMPDIR", room.toAbsolutePath().toString());
            command.redirectErrorStream(true);
            command.redirectOutput(room.resolve("said").toFile());
            int code = command.start().waitFor();
            if (code != 0) {
                System.out.println(Files.readString(room.resolve("said")));
            }
            Due.due("the exit code of " + block, code, 0);
            tried++;
        }
        Due.due("commands that were tried", tried, 2);
    }

    private static void refusalsAreTold(String text) {
        told(text, "UNKNOWN", TelegraphHouse.UNKNOWN);
        told(text, "OUTSIDE", TelegraphHouse.OUTSIDE);
        told(text, "STATE", TelegraphHouse.STATE);
        told(text, "FULL", TelegraphHouse.FULL);
        Due.due("README.md tells NONE", text.contains("`NONE` (" + TelegraphHouse.NONE + ")"));
    }

    private static void told(String text, String name, int value) {
        Due.due("README.md tells " + name, text.contains("| `" + name + "` | " + value + " |"));
    }

    private static void testsAreListed(String text) {
        TreeSet<String> listed = new TreeSet<>();
        Matcher m = Pattern.compile("(?m)^\\| `(\\w+Test)` \\|").matcher(text);
        while (m.find()) {
            listed.add(m.group(1));
        }
        TreeSet<String> there = new TreeSet<>();
        File[] files = TESTS.toFile().listFiles();
        for (File f : files == null ? new File[0] : files) {
            if (f.getName().endsWith("Test.java")) {
                there.add(f.getName().replace(".java", ""));
            }
        }
        Due.due("README.md lists " + listed + ", there are " + there, listed.equals(there));
    }

    private static void remove(Path room) throws IOException {
        try (Stream<Path> all = Files.walk(room)) {
            for (Path p : (Iterable<Path>) all.sorted(Comparator.reverseOrder())::iterator) {
                Files.delete(p);
            }
        }
    }
}
