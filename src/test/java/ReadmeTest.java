import java.io.IOException;
import java.lang.reflect.Method;
import java.lang.reflect.Modifier;
import java.nio.file.Files;
import java.nio.file.Path;
import java.util.ArrayList;
import java.util.HashSet;
import java.util.List;
import java.util.Set;
import java.util.concurrent.TimeUnit;
import java.util.regex.Matcher;
import java.util.regex.Pattern;
import java.util.stream.Stream;

/** Whether README.md is right: its example compiles and answers as it says, its commands run, its files are there. */
public final class ReadmeTest {
    private static final String CI = ".ci/run";
    private static final String MAKE = "AnswerKeeper keeper = new AnswerKeeper();";
    private static final Pattern CALL =
            Pattern.compile("(int|long) (\\w+) = keeper\\.(\\w+)\\(.*\\); *// (-?\\d+|[A-Z]+): .+");
    private static final Pattern FILE = Pattern.compile("`((?:src|\\.ci|\\.\\./shared)[^ `*]*)`");

    private final Due due = new Due();
    private final List<String> lines;
    private final Path room;

    private ReadmeTest() throws IOException {
        this.lines = Files.readAllLines(Path.of("README.md"));
        this.room = Files.createTempDirectory("readme");
    }

    public static void main(String[] args) throws Exception {
        new ReadmeTest().run();
    }

    private void run() throws Exception {
        try {
            due.part("the example of README.md");
            example();
            due.part("the commands of README.md");
            commands();
            due.part("the files of README.md");
            files();
        } finally {
            clear(room);
        }
        due.end();
    }

    /** All lines between fences of this kind, of all such blocks. */
    private List<String> block(String kind) {
        List<String> found = new ArrayList<>();
        boolean inside = false;
        for (String line : lines) {
            if (line.startsWith("```")) {
                inside = line.equals("```" + kind);
            } else if (inside && !line.isBlank()) {
                found.add(line.strip());
            }
        }
        return found;
    }

    private void example() throws Exception {
        StringBuilder program = new StringBuilder("public final class Example {\n"
                + "    public static void main(String[] args) {\n");
        List<String> wanted = new ArrayList<>();
        List<String> names = new ArrayList<>();
        Set<String> used = new HashSet<>();
        for (String line : block("java")) {
            Matcher call = CALL.matcher(line);
            program.append("        ").append(line).append('\n');
            if (call.matches()) {
                program.append("        System.out.println(").append(call.group(2)).append(");\n");
                names.add(line);
                wanted.add(call.group(4));
                used.add(call.group(3));
            } else {
                due.is("its answer stands behind it: " + line, line.startsWith("//") || line.equals(MAKE) ? 1 : 0, 1);
            }
        }
        program.append("    }\n}\n");
        for (Method method : AnswerKeeper.class.getDeclaredMethods()) {
            if (Modifier.isPublic(method.getModifiers())) {
                due.is("it shows the call " + method.getName(), used.contains(method.getName()) ? 1 : 0, 1);
            }
        }
        hold(program.toString(), names, wanted);
    }

    private void hold(String program, List<String> names, List<String> wanted) throws Exception {
        Path beside = Files.createDirectory(room.resolve("beside"));
        Files.copy(Path.of("src/main/java/AnswerKeeper.java"), beside.resolve("AnswerKeeper.java"));
        Files.writeString(beside.resolve("Example.java"), program);
        List<String> told = new ArrayList<>();
        due.is("it compiles", end(beside, told, "javac", "AnswerKeeper.java", "Example.java"), 0);
        told.clear();
        due.is("it runs", end(beside, told, "java", "-cp", ".", "Example"), 0);
        due.is("answers of the example", told.size(), wanted.size());
        for (int i = 0; i < Math.min(told.size(), wanted.size()); i++) {
            due.is(names.get(i), Long.parseLong(told.get(i)), value(wanted.get(i)));
        }
    }

    private static long value(String wanted) throws Exception {
        return wanted.matches("[A-Z]+") ? AnswerKeeper.class.getField(wanted).getInt(null) : Long.parseLong(wanted);
    }

    /** In a copy, as on a clean checkout. .ci/run itself is left out: it is what runs this test. */
    private void commands() throws Exception {
        Path copy = Files.createDirectory(room.resolve("project"));
        copyOf(Path.of("src"), copy.resolve("src"));
        Files.createSymbolicLink(room.resolve("shared"), Path.of("../shared").toRealPath());
        List<String> commands = block("sh");
        due.is("it tells to run " + CI, commands.contains(CI) ? 1 : 0, 1);
        due.is("it tells of other commands", commands.size() > 1 ? 1 : 0, 1);
        for (String command : commands) {
            if (!command.equals(CI)) {
                List<String> told = new ArrayList<>();
                int end = end(copy, told, "sh", "-c", command);
                due.is(command + " " + (end == 0 ? "" : told), end, 0);
            }
        }
    }

    private void files() throws IOException {
        String text = String.join("\n", lines);
        Matcher file = FILE.matcher(text);
        while (file.find()) {
            due.is("there is " + file.group(1), Files.exists(Path.of(file.group(1))) ? 1 : 0, 1);
        }
        due.is(CI + " may be run", Files.isExecutable(Path.of(CI)) ? 1 : 0, 1);
        for (String place : List.of("src/main/java", "src/test/java", "src/tools/java")) {
            try (Stream<Path> all = Files.list(Path.of(place))) {
                for (Path path : all.sorted().toList()) {
                    boolean own = !place.equals("src/test/java") || path.toString().endsWith("Test.java");
                    due.is("it names " + path, !own || text.contains("`" + path + "`") ? 1 : 0, 1);
                }
            }
        }
    }

    /** How the command ended, with what it printed; -1 if it does not end. */
    private static int end(Path place, List<String> told, String... command) throws Exception {
        Path printed = Files.createTempFile("readme", ".txt");
        try {
            Process process = new ProcessBuilder(command).directory(place.toFile()).redirectErrorStream(true)
                    .redirectOutput(printed.toFile()).start();
            boolean ended = process.waitFor(5, TimeUnit.MINUTES);
            if (!ended) {
                process.destroyForcibly();
            }
            told.addAll(Files.readAllLines(printed));
            return ended ? process.exitValue() : -1;
        } finally {
            Files.delete(printed);
        }
    }

    private static void copyOf(Path from, Path to) throws IOException {
        try (Stream<Path> all = Files.walk(from)) {
            for (Path path : all.toList()) {
                Files.copy(path, to.resolve(from.relativize(path)));
            }
        }
    }

    private static void clear(Path place) throws IOException {
        try (Stream<Path> all = Files.walk(place)) {
            List<Path> paths = new ArrayList<>(all.toList());
            for (int i = paths.size() - 1; i >= 0; i--) {
                Files.delete(paths.get(i));
            }
        }
    }
}
