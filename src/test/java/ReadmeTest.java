import java.io.IOException;
import java.io.StringWriter;
import java.lang.reflect.Method;
import java.lang.reflect.Modifier;
import java.net.URI;
import java.net.URL;
import java.net.URLClassLoader;
import java.nio.file.Files;
import java.nio.file.Path;
import java.util.ArrayList;
import java.util.List;
import java.util.Set;
import java.util.TreeSet;
import java.util.regex.Matcher;
import java.util.regex.Pattern;
import java.util.stream.Stream;
import javax.tools.JavaCompiler;
import javax.tools.JavaFileObject;
import javax.tools.SimpleJavaFileObject;
import javax.tools.ToolProvider;

/** What README.md shows holds: its calls compile and answer as it says, its tables are right. */
final class ReadmeTest {
    private static final Pattern BLOCK = Pattern.compile("(?ms)^```java\n(.*?)^```$");
    private static final String MAKING = "FieldPitches field = new FieldPitches();";
    private static final Pattern CALL =
            Pattern.compile("(?:(int \\w+) = )?(field\\.(\\w+)\\(.*\\));\\s+// (-?\\d+)(?:: .*)?");

    private ReadmeTest() {
    }

    public static void main(String[] args) throws Exception {
        String readme = Files.readString(Path.of("README.md"));
        for (String fault : faults(readme)) {
            Due.holds(fault, false);
        }
        wrongPagesAreFound(readme);
        Due.end();
    }

    private static List<String> faults(String readme) throws Exception {
        List<String> faults = new ArrayList<>();
        shownCalls(readme, faults);
        findings(readme, faults);
        compare("classes", namesInTable(readme), classes(), faults);
        compare("tests", namesOfTests(readme), tests(), faults);
        return faults;
    }

    // ---- the calls that are shown

    private static void shownCalls(String readme, List<String> faults) throws Exception {
        List<String> lines = shownLines(readme);
        StringBuilder asShown = new StringBuilder();
        StringBuilder asked = new StringBuilder();
        List<Matcher> calls = new ArrayList<>();
        Set<String> names = new TreeSet<>();
        for (String line : lines) {
            asShown.append(line).append('\n');
            Matcher call = CALL.matcher(line);
            if (call.matches()) {
                asked.append(asking(call, calls.size()));
                calls.add(call);
                names.add(call.group(3));
            } else if (line.equals(MAKING)) {
                asked.append(line).append('\n');
            } else if (!line.isBlank()) {
                faults.add("README tells no answer of: " + line);
            }
        }
        compare("calls", names, face(), faults);
        int[] answers = answers(program(asShown, asked, calls.size()), faults);
        for (int i = 0; i < answers.length; i++) {
            if (answers[i] != Integer.parseInt(calls.get(i).group(4))) {
                faults.add("README: " + calls.get(i).group() + " answered " + answers[i]);
            }
        }
    }

    private static List<String> shownLines(String readme) {
        List<String> lines = new ArrayList<>();
        Matcher block = BLOCK.matcher(readme);
        while (block.find()) {
            block.group(1).lines().forEach(lines::add);
        }
        return lines;
    }

    /** The line that keeps a call's answer, as the shown line does where it gives it a name. */
    private static String asking(Matcher call, int i) {
        String kept = "answers[" + i + "] = " + call.group(2) + ";\n";
        return call.group(1) == null ? kept : kept + call.group(1) + " = answers[" + i + "];\n";
    }

    /** The page's lines stand in it as they are too, or a line could compile by the change alone. */
    private static String program(StringBuilder asShown, StringBuilder asked, int calls) {
        return "public final class Shown {\n"
                + "static void asShown() {\n" + asShown + "}\n"
                + "public static int[] answers() {\nint[] answers = new int[" + calls + "];\n"
                + asked + "return answers;\n}\n}\n";
    }

    /** The program's answers; none if it doesn't compile. */
    private static int[] answers(String program, List<String> faults) throws Exception {
        JavaCompiler compiler = ToolProvider.getSystemJavaCompiler();
        if (compiler == null) {
            faults.add("README can't be looked at: there is no compiler");
            return new int[0];
        }
        Path made = Files.createTempDirectory("readme");
        try {
            StringWriter told = new StringWriter();
            List<String> options = List.of("--release", "17", "-proc:none", "-d", made.toString(),
                    "-cp", System.getProperty("java.class.path"));
            boolean isFine = compiler.getTask(told, null, null, options, null, List.of(source(program))).call();
            if (!isFine) {
                faults.add("README shows what doesn't compile: " + told);
                return new int[0];
            }
            try (URLClassLoader loader = new URLClassLoader(new URL[] {made.toUri().toURL()},
                    ReadmeTest.class.getClassLoader())) {
                return (int[]) loader.loadClass("Shown").getMethod("answers").invoke(null);
            }
        } finally {
            clear(made);
        }
    }

    private static JavaFileObject source(String program) {
        return new SimpleJavaFileObject(URI.create("string:///Shown.java"), JavaFileObject.Kind.SOURCE) {
            @Override
            public CharSequence getCharContent(boolean ignoreEncodingErrors) {
                return program;
            }
        };
    }

    private static void clear(Path directory) throws IOException {
        Files.deleteIfExists(directory.resolve("Shown.class"));
        Files.delete(directory);
    }

    // ---- its tables and the tests that it names

    private static void findings(String readme, List<String> faults) {
        String[] names = {"BEYOND", "FULL", "KIND", "NONE", "STATE", "MISSING", "SIZE"};
        int[] answers = {Due.BEYOND, Due.FULL, Due.KIND, Due.NONE, Due.STATE, Due.MISSING, Due.SIZE};
        for (int i = 0; i < names.length; i++) {
            String row = "| " + names[i] + " | " + answers[i] + " | " + i + " |";
            if (!readme.contains("\n" + row + "\n")) {
                faults.add("README lacks the row " + row);
            }
        }
    }

    private static void compare(String what, Set<String> told, Set<String> due, List<String> faults) {
        if (!told.equals(due)) {
            faults.add("README's " + what + " " + told + " instead of " + due);
        }
    }

    private static Set<String> face() {
        Set<String> names = new TreeSet<>();
        for (Method m : FieldPitches.class.getDeclaredMethods()) {
            if (Modifier.isPublic(m.getModifiers())) {
                names.add(m.getName());
            }
        }
        return names;
    }

    private static Set<String> classes() {
        Set<String> names = new TreeSet<>(Set.of("FieldPitches"));
        for (Class<?> c : FieldPitches.class.getDeclaredClasses()) {
            names.add(c.getSimpleName());
        }
        return names;
    }

    private static Set<String> namesInTable(String readme) {
        Set<String> names = new TreeSet<>();
        Matcher row = Pattern.compile("(?m)^\\| ((?:`[A-Z]\\w*`(?:, )?)+) \\|").matcher(readme);
        while (row.find()) {
            for (String name : row.group(1).split(", ")) {
                names.add(name.replace("`", ""));
            }
        }
        return names;
    }

    private static Set<String> namesOfTests(String readme) {
        Set<String> names = new TreeSet<>();
        Matcher name = Pattern.compile("`(\\w+Test)`").matcher(readme);
        while (name.find()) {
            names.add(name.group(1));
        }
        return names;
    }

    private static Set<String> tests() throws IOException {
        Set<String> names = new TreeSet<>();
        try (Stream<Path> files = Files.list(Path.of("src/test/java"))) {
            files.map(f -> f.getFileName().toString()).filter(f -> f.endsWith("Test.java"))
                    .forEach(f -> names.add(f.replace(".java", "")));
        }
        return names;
    }

    // ---- pages that are wrong

    /** A page that is changed so that it doesn't hold is told as such. */
    private static void wrongPagesAreFound(String readme) throws Exception {
        found(readme, "// 39: its PRICE", "// 40: its PRICE");
        found(readme, "field.join(1);                                 // -1:", "field.join(1);  // 1:");
        found(readme, "field.pay(van);", "field.paid(van);");
        found(readme, "field.put(van, oak);", "field.put(cart, oak);");
        found(readme, "field.wipe();  ", "//field.wipe();  ");
        found(readme, "// 58: half of 117, cut", "// half of 117, cut");
        found(readme, "| KIND | -1000003 | 2 |", "| KIND | -1000002 | 2 |");
        found(readme, "`Rescuer`", "`Saver`");
        found(readme, "`RoomTest`", "`HallTest`");
    }

    private static void found(String readme, String right, String wrong) throws Exception {
        Due.holds("README has '" + right + "'", readme.contains(right));
        Due.holds("'" + wrong + "' in README is found", !faults(readme.replace(right, wrong)).isEmpty());
    }
}
