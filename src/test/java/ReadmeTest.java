import java.io.IOException;
import java.net.URL;
import java.net.URLClassLoader;
import java.nio.file.Files;
import java.nio.file.Path;
import java.util.ArrayList;
import java.util.List;
import java.util.Map;
import java.util.function.ObjIntConsumer;
import java.util.regex.Matcher;
import java.util.regex.Pattern;

/**
 * README.md: its pieces of Java are compiled and run as they stand there, and each call answers what
 * is said behind it. Each call of the document, and each test, is named in it.
 */
public final class ReadmeTest {
    private static final Due DUE = new Due();
    private static final Pattern ASKED = Pattern.compile("(x\\.\\w+\\(.*\\)); +// (-?\\d+|[A-Z]+): .+");
    private static final Pattern FACE = Pattern.compile("public int (\\w+)\\((.*)\\);");
    private static final Map<String, Integer> NAMED = Map.of("BAD", -1, "NO", -2, "FULL", -3, "NONE", -4);

    private static final List<String> calls = new ArrayList<>();
    private static final List<Integer> answers = new ArrayList<>();
    private static int answered;

    public static void main(String[] args) throws Exception {
        String readme = Files.readString(Path.of("README.md"));
        run(program(blocks(readme)));
        DUE.is("calls that were run", answered, calls.size());
        everyCallIsShown();
        everyCallIsNamed(readme);
        everyTestIsNamed(readme);
        answersBelowNought(readme);
        DUE.end();
    }

    /** The pieces of Java, each line by line. */
    private static List<List<String>> blocks(String readme) {
        List<List<String>> blocks = new ArrayList<>();
        List<String> block = null;
        for (String line : readme.split("\n")) {
            if (line.equals("```java")) {
                block = new ArrayList<>();
                blocks.add(block);
            } else if (line.equals("```")) {
                block = null;
            } else if (block != null) {
                block.add(line);
            }
        }
        return blocks;
    }

    /** A class with each piece as a method of its own, in which each call tells what it answers. */
    private static String program(List<List<String>> blocks) {
        StringBuilder program = new StringBuilder("public final class ReadmeRun {\n");
        StringBuilder main = new StringBuilder();
        for (int k = 0; k < blocks.size(); k++) {
            List<String> block = blocks.get(k);
            if (block.get(0).startsWith("static ")) {
                program.append(String.join("\n", block)).append('\n');
                continue;
            }
            program.append("static void piece").append(k)
                    .append("(java.util.function.ObjIntConsumer<String> seen) {\n");
            for (String line : block) {
                program.append(line.startsWith("x.") ? asked(line) : line).append('\n');
            }
            program.append("}\n");
            main.append("piece").append(k).append("(seen);\n");
        }
        return program + "public static void run(java.util.function.ObjIntConsumer<String> seen) {\n" + main + "}\n}\n";
    }

    private static String asked(String line) {
        Matcher call = ASKED.matcher(line);
        if (!call.matches()) {
            DUE.same("a call in README.md", line, "with what it answers behind it");
            return line;
        }
        String answer = call.group(2);
        calls.add(call.group(1));
        answers.add(NAMED.containsKey(answer) ? NAMED.get(answer) : Integer.valueOf(answer));
        return "seen.accept(\"" + call.group(1) + "\", " + call.group(1) + ");";
    }

    private static void run(String program) throws Exception {
        Path out = Files.createTempDirectory("readme");
        Path file = Files.writeString(out.resolve("ReadmeRun.java"), program);
        ProcessBuilder javac = new ProcessBuilder("javac", "-Xlint:all", "-Werror", "-cp",
                System.getProperty("java.class.path"), "-d", out.toString(), file.toString());
        int failed = javac.inheritIO().start().waitFor();
        DUE.is("what README.md shows compiles", failed, 0);
        if (failed == 0) {
            ObjIntConsumer<String> seen = ReadmeTest::compare;
            try (URLClassLoader loader = new URLClassLoader(new URL[] {out.toUri().toURL()})) {
                loader.loadClass("ReadmeRun").getMethod("run", ObjIntConsumer.class).invoke(null, seen);
            }
        }
        for (String name : List.of("ReadmeRun.class", "ReadmeRun.java")) {
            Files.deleteIfExists(out.resolve(name));
        }
        Files.delete(out);
    }

    private static void compare(String call, int answer) {
        DUE.same("the call " + answered + " that is run", call, calls.get(answered));
        DUE.is("README.md: " + call, answer, answers.get(answered));
        answered++;
    }

    private static List<Matcher> face() throws IOException {
        List<Matcher> face = new ArrayList<>();
        for (String line : Files.readAllLines(Path.of("../shared/DOC.md"))) {
            Matcher call = FACE.matcher(line.strip());
            if (call.matches()) {
                face.add(call);
            }
        }
        DUE.is("calls of the document", face.size(), 27);
        return face;
    }

    private static void everyCallIsShown() throws IOException {
        // These are used to tell a TEXT, and shown in the helper alone.
        List<String> inHelper = List.of("write");
        for (Matcher call : face()) {
            String start = "x." + call.group(1) + "(";
            boolean isShown = calls.stream().anyMatch(shown -> shown.startsWith(start));
            DUE.is("shown: " + call.group(1), isShown || inHelper.contains(call.group(1)) ? 1 : 0, 1);
        }
    }

    private static void everyCallIsNamed(String readme) throws IOException {
        for (Matcher call : face()) {
            String named = "| `" + call.group(1) + "(" + call.group(2).replace("int ", "") + ")` | ";
            DUE.is("in a table: " + named, readme.contains(named) ? 1 : 0, 1);
        }
    }

    private static void everyTestIsNamed(String readme) throws IOException {
        try (var files = Files.list(Path.of("src/test/java"))) {
            for (Path file : files.sorted().toList()) {
                String name = file.getFileName().toString().replace(".java", "");
                boolean isNamed = readme.contains("`" + name + "`") || name.startsWith("Says");
                DUE.is("named: " + name, isNamed ? 1 : 0, 1);
            }
        }
    }

    private static void answersBelowNought(String readme) {
        for (Map.Entry<String, Integer> named : NAMED.entrySet()) {
            String told = "- `" + named.getKey() + "` (" + named.getValue() + "): ";
            DUE.is("what is meant by " + named.getKey(), readme.contains(told) ? 1 : 0, 1);
        }
    }
}
