import java.io.IOException;
import java.io.PrintWriter;
import java.io.StringWriter;
import java.nio.file.Files;
import java.nio.file.Path;
import java.util.ArrayList;
import java.util.List;
import java.util.Map;
import java.util.Set;
import java.util.TreeMap;
import java.util.TreeSet;
import java.util.regex.Matcher;
import java.util.regex.Pattern;
import java.util.spi.ToolProvider;

/** What of LANGUAGE.md can be seen in the text of the class and, for who calls whom, in what it is compiled to. */
public final class LanguageTest {
    private static final Path SOURCE = Path.of("src", "main", "java", "PostVotes.java");
    private static final Set<String> IMPORTS = Set.of("java.util.ArrayList", "java.util.Arrays", "java.util.List", "java.util.NoSuchElementException");
    private static final Set<String> LIBRARY = Set.of("java/lang/Object.\"<init>\"", "java/lang/Math.min", "java/lang/Math.max",
        "java/lang/String.indexOf", "java/lang/System.arraycopy", "java/util/Arrays.fill", "java/util/Arrays.copyOf",
        "java/util/NoSuchElementException.\"<init>\"", "java/util/ArrayList.\"<init>\"", "java/util/ArrayList.add", "java/util/ArrayList.get",
        "java/util/ArrayList.size", "java/util/ArrayList.isEmpty", "java/util/ArrayList.clear");
    private static final String[] NEVER = {"->", "::", "\\btry\\b", "\\bcatch\\b", "\\bfinally\\b", "\\bsynchronized\\b", "\\bassert\\b", "\\bdouble\\b",
        "\\bfloat\\b", "\\bpackage\\b", "\\bprotected\\b", "\\bnative\\b", "\\bvolatile\\b", "\\btransient\\b", "static\\s*\\{", "@Override", "Exact\\(",
        "\\bequals\\(", "\\bhashCode\\(", "\\btoString\\(", "\\bvar\\b", "\\bInteger\\b", "\\binstanceof\\b", "\\bInner\\b", "\"[^\"\n]*\"\\s*\\+"};

    private static final Map<String, Set<String>> CALLS = new TreeMap<>();
    private static final Set<String> PRIVATE = new TreeSet<>();
    private static final Set<String> STATIC = new TreeSet<>();

    public static void main(String[] args) throws Exception {
        String text = Files.readString(SOURCE);
        words(text.replaceAll("(?s)/\\*.*?\\*/", "").replaceAll("//[^\n]*", "").replaceAll("'[^'\n]*'", "' '"));
        lengths(text.split("\n"));
        if (ToolProvider.findFirst("javap").isPresent()) {
            readCalls();
            calls();
        }
        Due.end("LanguageTest");
    }

    private static void words(String code) {
        for (String never : NEVER) {
            Matcher found = Pattern.compile(never).matcher(code);
            Due.no("the class has " + never + (found.find() ? ", at " + code.substring(0, found.start()).split("\n").length : ""), found.reset().find());
        }
        Matcher imported = Pattern.compile("import ([^;]+);").matcher(code);
        while (imported.find()) {
            Due.yes("import of " + imported.group(1), IMPORTS.contains(imported.group(1)));
        }
        Matcher thrown = Pattern.compile("throw[^\n;]*;").matcher(code);
        int throwers = 0;
        while (thrown.find()) {
            throwers++;
            Due.yes("thrown: " + thrown.group(), thrown.group().startsWith("throw new NoSuchElementException(\""));
        }
        Due.is("places that throw", throwers, 1);
        Matcher constant = Pattern.compile("static final (\\S+) [A-Z_0-9]+ =").matcher(code);
        while (constant.find()) {
            Due.yes("constant of " + constant.group(1), Set.of("int", "long", "boolean", "char", "String").contains(constant.group(1)));
        }
        Matcher open = Pattern.compile("\\b(for|while) \\(([^\n]*)\\) \\{").matcher(code);
        while (open.find()) {
            Due.yes("loop with an end: " + open.group(2), open.group(2).contains("<") || open.group(2).contains(">"));
        }
    }

    private static void lengths(String[] lines) {
        int from = 0;
        for (int i = 0; i < lines.length; i++) {
            boolean begins = lines[i].matches(" {4,8}[^ /*}].*\\) (throws \\w+ )?\\{") && !lines[i].matches(" *(for|while|if|switch|else).*");
            from = begins ? i : from;
            if (lines[i].matches(" {4,8}\\}")) {
                Due.yes("the method that begins in line " + (from + 1) + " is short", i - from < 60);
            }
            Due.yes("line " + (i + 1) + " has signs of 10 to 126", lines[i].chars().allMatch(sign -> sign >= 32 && sign <= 126));
        }
    }

    /** Reads from the compiled classes which method calls which. */
    private static void readCalls() throws IOException {
        List<String> arguments = new ArrayList<>(List.of("-c", "-p", "-cp", System.getProperty("java.class.path"), "PostVotes"));
        for (Class<?> part : PostVotes.class.getDeclaredClasses()) {
            arguments.add(part.getName());
        }
        StringWriter told = new StringWriter();
        ToolProvider.findFirst("javap").orElseThrow().run(new PrintWriter(told), new PrintWriter(told), arguments.toArray(new String[0]));
        String owner = "";
        String caller = "";
        for (String line : told.toString().split("\n")) {
            Matcher type = Pattern.compile("(?:[a-z]+ )*class ([\\w$]+) \\{").matcher(line.trim());
            Matcher method = Pattern.compile("  (private |public |static |final )*\\S* ?([\\w$]+)\\(.*\\)( throws \\S+)?;").matcher(line);
            Matcher call = Pattern.compile(".*// (?:Interface)?Method (?:([\\w$/]+)\\.)?(\"<init>\"|[\\w$]+):.*").matcher(line);
            if (type.matches()) {
                owner = type.group(1);
            } else if (method.matches()) {
                caller = owner + "." + (method.group(2).equals(owner) ? "\"<init>\"" : method.group(2));
                CALLS.putIfAbsent(caller, new TreeSet<>());
                if (line.startsWith("  private ")) {
                    PRIVATE.add(caller);
                }
                if (line.contains(" static ")) {
                    STATIC.add(caller);
                }
            } else if (call.matches()) {
                CALLS.get(caller).add((call.group(1) == null ? owner : call.group(1)) + "." + call.group(2));
            }
        }
    }

    private static void calls() {
        Due.yes("calls were read: " + CALLS.size(), CALLS.size() > 120 && CALLS.containsKey("PostVotes$Van.goOn"));
        for (Map.Entry<String, Set<String>> one : CALLS.entrySet()) {
            for (String called : one.getValue()) {
                Due.yes(one.getKey() + " calls " + called, called.startsWith("PostVotes") || LIBRARY.contains(called));
            }
        }
        Set<String> again = new TreeSet<>();
        for (String caller : CALLS.keySet()) {
            Set<String> reached = new TreeSet<>();
            reach(caller, reached);
            if (reached.contains(caller)) {
                again.add(caller);
                reached.removeIf(called -> !reaches(called, caller));
                boolean alone = reached.size() == 1;
                Due.yes(caller + " comes to itself, and is private", PRIVATE.contains(caller));
                Due.yes(caller + " calls no other that comes to it, and is static", !alone || STATIC.contains(caller));
            }
        }
        for (String caller : CALLS.keySet()) {
            int deep = again.contains(caller) ? 0 : depth(caller, again);
            Due.yes("calls from " + caller + " go " + deep + " deep", deep <= 8);
        }
    }

    private static void reach(String caller, Set<String> reached) {
        for (String called : CALLS.getOrDefault(caller, Set.of())) {
            if (reached.add(called)) {
                reach(called, reached);
            }
        }
    }

    private static boolean reaches(String caller, String called) {
        Set<String> reached = new TreeSet<>();
        reach(caller, reached);
        return reached.contains(called);
    }

    /** How deep the calls go from one on, those that come to themselves counted as one. */
    private static int depth(String caller, Set<String> again) {
        int most = 0;
        for (String called : CALLS.getOrDefault(caller, Set.of())) {
            most = Math.max(most, again.contains(called) ? 1 : depth(called, again));
        }
        return most + 1;
    }
}
