import java.io.IOException;
import java.lang.reflect.Method;
import java.net.URL;
import java.net.URLClassLoader;
import java.nio.file.Files;
import java.nio.file.Path;
import java.util.ArrayList;
import java.util.Comparator;
import java.util.List;
import java.util.TreeSet;
import java.util.regex.Matcher;
import java.util.regex.Pattern;
import java.util.stream.Stream;
import javax.tools.JavaCompiler;
import javax.tools.ToolProvider;

/** README.md: its examples compile and answer as told there, its commands run the tests, its table has all tests. */
public final class ReadmeTest {
    private static final Path README = Path.of("README.md");
    private static final Path SHARED = Path.of("..", "shared", "tests");
    private static final Pattern VARIABLE = Pattern.compile("int (\\w+) = .+;\\s+// (-?\\d+): .+");
    private static final Pattern THROWS = Pattern.compile("(house\\..+);\\s+// NoSuchElementException: .+");
    private static final Pattern CALL = Pattern.compile("(\\w+.*?);\\s+// (-?\\d+|true|false): .+");
    private static final String MADE = "PostVotes house = new PostVotes();";

    public static void main(String[] args) throws Exception {
        Path folder = Files.createTempDirectory("readme");
        try {
            examples(folder);
            commands(folder);
            tests();
        } finally {
            remove(folder);
        }
        Due.end("ReadmeTest");
    }

    /** What a program made of the examples calls for each of its answers. */
    public static void due(String call, Object got, String want) {
        Due.yes("README, " + call + " answered " + got + ", " + want, String.valueOf(got).equals(want));
    }

    private static void examples(Path folder) throws Exception {
        StringBuilder members = new StringBuilder();
        StringBuilder body = new StringBuilder();
        TreeSet<String> called = new TreeSet<>();
        for (String block : blocks("java")) {
            if (block.startsWith("static ")) {
                members.append(block);
                continue;
            }
            for (String line : block.split("\n")) {
                body.append(checked(line)).append('\n');
                Matcher call = Pattern.compile("house\\.(\\w+)\\(").matcher(line);
                while (call.find()) {
                    called.add(call.group(1));
                }
            }
        }
        Due.yes("README shows calls of most kinds: " + called, called.size() > 30);
        Path source = folder.resolve("ReadmeUse.java");
        Files.writeString(source, "public final class ReadmeUse {\n" + members + "public static void use() {\n" + body + "}\n}\n");
        JavaCompiler javac = ToolProvider.getSystemJavaCompiler();
        Due.yes("a compiler is there", javac != null);
        int answer = javac == null ? 1 : javac.run(null, null, null, "-cp", System.getProperty("java.class.path"), "-d", folder.toString(), source.toString());
        Due.is("README's examples compile", answer, 0);
        if (answer == 0) {
            try (URLClassLoader loader = new URLClassLoader(new URL[] {folder.toUri().toURL()})) {
                Method use = loader.loadClass("ReadmeUse").getMethod("use");
                use.invoke(null);
            }
        }
    }

    /** A line of an example as a line that compares its answer with the one that the comment tells. */
    private static String checked(String line) {
        Matcher variable = VARIABLE.matcher(line);
        Matcher thrower = THROWS.matcher(line);
        Matcher call = CALL.matcher(line);
        if (line.equals(MADE)) {
            return line;
        }
        if (variable.matches()) {
            return line + "\n" + dueLine(variable.group(1), variable.group(1), variable.group(2));
        }
        if (thrower.matches()) {
            return "try { " + thrower.group(1) + "; " + dueLine(thrower.group(1), "\"nothing thrown\"", "thrown")
                + " } catch (java.util.NoSuchElementException e) { " + dueLine(thrower.group(1), "\"thrown\"", "thrown") + " }";
        }
        boolean told = call.matches();
        Due.yes("README tells what is answered: " + line, told);
        return told ? dueLine(call.group(1), call.group(1), call.group(2)) : "";
    }

    private static String dueLine(String call, String value, String want) {
        return "ReadmeTest.due(\"" + call.replace("\"", "'") + "\", " + value + ", \"" + want + "\");";
    }

    private static void commands(Path folder) throws Exception {
        List<String> commands = blocks("sh");
        Due.yes("the first command is CI's", commands.size() == 3 && commands.get(0).equals("sh .ci/run\n") && Files.isExecutable(Path.of(".ci", "run")));
        Path project = folder.resolve("project");
        copy(Path.of("src"), project.resolve("src"));
        boolean shared = Files.isDirectory(SHARED);
        if (shared) {
            copy(SHARED, folder.resolve("shared").resolve("tests"));
        }
        // the first one runs this test, too
        for (String command : commands.subList(1, commands.size())) {
            if (shared || !command.contains("../shared/")) {
                Process process = new ProcessBuilder("sh", "-c", command).directory(project.toFile()).redirectErrorStream(true).start();
                String said = new String(process.getInputStream().readAllBytes());
                Due.is("README's command " + command + said, process.waitFor(), 0);
            }
        }
    }

    private static void tests() throws IOException {
        TreeSet<String> named = new TreeSet<>();
        for (String line : Files.readAllLines(README)) {
            Matcher row = Pattern.compile("\\| (\\w+Test) \\| .+ \\|").matcher(line);
            if (row.matches()) {
                named.add(row.group(1) + ".java");
            }
        }
        TreeSet<String> there = new TreeSet<>();
        try (Stream<Path> files = Files.list(Path.of("src", "test", "java"))) {
            files.map(file -> file.getFileName().toString()).filter(name -> name.endsWith("Test.java")).forEach(there::add);
        }
        Due.yes("README names the tests " + named + ", there are " + there, named.equals(there));
    }

    /** The blocks of README.md that are fenced as of a language. */
    private static List<String> blocks(String language) throws IOException {
        List<String> found = new ArrayList<>();
        Matcher block = Pattern.compile("^```" + language + "\n(.*?)^```$", Pattern.MULTILINE | Pattern.DOTALL).matcher(Files.readString(README));
        while (block.find()) {
            found.add(block.group(1));
        }
        return found;
    }

    private static void copy(Path from, Path to) throws IOException {
        List<Path> all;
        try (Stream<Path> walk = Files.walk(from)) {
            all = walk.toList();
        }
        for (Path path : all) {
            Path copied = to.resolve(from.relativize(path).toString());
            if (Files.isDirectory(path)) {
                Files.createDirectories(copied);
            } else {
                Files.write(copied, Files.readAllBytes(path));
            }
        }
    }

    private static void remove(Path folder) throws IOException {
        List<Path> all;
        try (Stream<Path> walk = Files.walk(folder)) {
            all = new ArrayList<>(walk.toList());
        }
        all.sort(Comparator.reverseOrder());
        for (Path path : all) {
            Files.delete(path);
        }
    }
}
