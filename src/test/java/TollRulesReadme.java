import java.io.IOException;
import java.io.OutputStream;
import java.lang.reflect.Method;
import java.lang.reflect.Modifier;
import java.nio.file.Files;
import java.nio.file.Path;
import java.util.ArrayList;
import java.util.List;
import java.util.Set;
import java.util.TreeSet;
import java.util.regex.Matcher;
import java.util.regex.Pattern;
import java.util.stream.Stream;
import javax.tools.JavaCompiler;
import javax.tools.ToolProvider;

/**
 * What README.md tells is so: its programs compile and print what it says, each call in its examples answers what
 * stands behind it, every call of the face is shown, and the tests that it names are those that there are.
 */
public final class TollRulesReadme {
    private static final Path README = Path.of("README.md");
    private static final Pattern BLOCK = Pattern.compile("```java\n(.*?)```", Pattern.DOTALL);
    private static final Pattern CALL = Pattern.compile(
            "(?:(?:int|long) (\\w+) = )?(toll\\.(\\w+)\\([^;]*\\)); +// (-?\\d+|NONE|BAD|FULL)(?:: .+)?");
    private static final String NEW_OBJECT = "TollRules toll = new TollRules();";

    private static final Set<String> shown = new TreeSet<>();
    private static int wrong = 0;
    private static int answers = 0;

    public static void main(String[] args) throws Exception {
        String readme = Files.readString(README);
        List<String> examples = new ArrayList<>();
        List<String> programs = new ArrayList<>();
        for (Matcher block = BLOCK.matcher(readme); block.find(); ) {
            (block.group(1).contains("class ") ? programs : examples).add(block.group(1));
        }
        check("there is one program, found " + programs.size(), programs.size() == 1);
        for (String program : programs) {
            String printed = firstMatch("it prints `([^`]*)`", readme);
            compare("the program prints", run("Toll", program).strip(), printed);
        }
        for (String example : examples) {
            String told = run("Example", asProgram(example));
            check("an example does not answer as told:\n" + told, told.isEmpty());
        }
        compare("the calls shown", shown, publicMethods());
        compare("the calls in the table", allMatches("\n\\| `(\\w+)\\(", readme), publicMethods());
        compare("the tests named", allMatches("`(TollRules[A-Z]\\w+)`", readme), testsThere());
        System.out.println(wrong == 0 ? answers + " answers are as the README tells"
                : wrong + " things are not as the README tells");
        if (wrong != 0) {
            System.exit(1);
        }
    }

    /** The example as it stands, but that each call's answer is held against the one behind it. */
    private static String asProgram(String example) {
        StringBuilder body = new StringBuilder();
        for (String line : example.split("\n")) {
            Matcher call = CALL.matcher(line);
            if (call.matches()) {
                body.append(asCheck(line, call));
            } else {
                check("a line of an example is a call with its answer: " + line, line.equals(NEW_OBJECT));
                body.append(line).append('\n');
            }
        }
        return "public final class Example {\n"
                + "static void due(String call, long got, long want) {\n"
                + "if (got != want) System.out.println(call + \" answered \" + got + \", told is \" + want);\n}\n"
                + "public static void main(String[] args) {\n" + body + "}\n}\n";
    }

    private static String asCheck(String line, Matcher call) {
        answers++;
        shown.add(call.group(3));
        String variable = call.group(1);
        String told = call.group(4).matches("[A-Z]+") ? "TollRules." + call.group(4) : call.group(4) + "L";
        String got = variable == null ? call.group(2) : variable;
        return (variable == null ? "" : line + "\n")
                + "due(\"" + call.group(2) + "\", " + got + ", " + told + ");\n";
    }

    /** What the program prints when it is compiled together with the class, in a folder of its own. */
    private static String run(String name, String program) throws IOException, InterruptedException {
        Path folder = Files.createTempDirectory("readme");
        Path source = Files.writeString(folder.resolve(name + ".java"), program);
        JavaCompiler compiler = ToolProvider.getSystemJavaCompiler();
        OutputStream messages = System.out;
        int compiled = compiler.run(null, messages, messages, "-d", folder.toString(),
                "src/main/java/TollRules.java", source.toString());
        String printed = compiled == 0 ? printedBy(folder, name) : "(does not compile)";
        try (Stream<Path> made = Files.list(folder)) {
            for (Path file : made.toList()) {
                Files.delete(file);
            }
        }
        Files.delete(folder);
        return printed;
    }

    private static String printedBy(Path folder, String name) throws IOException, InterruptedException {
        String java = Path.of(System.getProperty("java.home"), "bin", "java").toString();
        Process process = new ProcessBuilder(java, "-cp", folder.toString(), name).redirectErrorStream(true).start();
        String printed = new String(process.getInputStream().readAllBytes());
        return process.waitFor() == 0 ? printed : printed + "(ended with an error)";
    }

    private static Set<String> publicMethods() {
        Set<String> names = new TreeSet<>();
        for (Method method : TollRules.class.getDeclaredMethods()) {
            if (Modifier.isPublic(method.getModifiers())) {
                names.add(method.getName());
            }
        }
        return names;
    }

    private static Set<String> testsThere() throws IOException {
        Set<String> names = new TreeSet<>();
        try (Stream<Path> files = Files.list(Path.of("src/test/java"))) {
            files.forEach(file -> names.add(file.getFileName().toString().replace(".java", "")));
        }
        return names;
    }

    private static Set<String> allMatches(String pattern, String text) {
        Set<String> found = new TreeSet<>();
        for (Matcher matcher = Pattern.compile(pattern).matcher(text); matcher.find(); ) {
            found.add(matcher.group(1));
        }
        return found;
    }

    private static String firstMatch(String pattern, String text) {
        Matcher matcher = Pattern.compile(pattern).matcher(text);
        return matcher.find() ? matcher.group(1) : "(not told)";
    }

    private static void compare(String what, Object got, Object told) {
        check(what + ": " + got + ", due is " + told, got.equals(told));
    }

    private static void check(String what, boolean holds) {
        if (!holds) {
            wrong++;
            System.out.println("not so: " + what);
        }
    }
}
