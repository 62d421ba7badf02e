import java.io.IOException;
import java.lang.reflect.Method;
import java.lang.reflect.Modifier;
import java.nio.file.Files;
import java.nio.file.Path;
import java.util.ArrayList;
import java.util.HashMap;
import java.util.List;
import java.util.Map;
import java.util.Set;
import java.util.TreeSet;
import java.util.regex.Matcher;
import java.util.regex.Pattern;

/** What README.md says is so: its program runs with the answers that stand in it, its calls and tests are there. */
final class ReadmeTest {
    private static final Check CHECK = new Check("ReadmeTest");
    private static final Pattern ANSWER = Pattern.compile("^ *(int|long|boolean) (\\w+) = .*; *// (-?\\d+|true|false)\\b.*");
    private static final Pattern TOLD = Pattern.compile("`(\\w+)`");
    private static final String HEAD = "public class Example {\n";
    private static final String ASKED = "    static void due(String name, Object got, Object want) {\n"
            + "        if (!got.equals(want)) {\n"
            + "            throw new IllegalStateException(name + \" is \" + got + \", README.md says \" + want);\n"
            + "        }\n    }\n\n";

    public static void main(String[] args) throws IOException, InterruptedException {
        String page = Files.readString(Path.of("README.md"));
        program(page);
        calls(page);
        tests(page);
        CHECK.due(".ci/run can be run", Files.isExecutable(Path.of(".ci/run")), true);
        CHECK.end();
    }

    private static void program(String page) throws IOException, InterruptedException {
        Path folder = Files.createTempDirectory("readme");
        try {
            Path source = folder.resolve("Example.java");
            Files.writeString(source, asking(block(page)));
            String classes = System.getProperty("java.class.path");
            CHECK.due("the program compiles",
                    ended("javac", "-cp", classes, "-d", folder.toString(), source.toString()), 0);
            CHECK.due("the program's answers", ended("java", "-cp", classes + java.io.File.pathSeparator + folder,
                    "Example"), 0);
        } finally {
            for (String name : new String[] {"Example.java", "Example.class"}) {
                Files.deleteIfExists(folder.resolve(name));
            }
            Files.delete(folder);
        }
    }

    private static String block(String page) {
        int start = page.indexOf("```java\n");
        int end = page.indexOf("```\n", start + 8);
        CHECK.due("there is one program", start >= 0 && end > start && page.indexOf("```java", end) < 0, true);
        return start < 0 || end < start ? HEAD : page.substring(start + 8, end);
    }

    /** The program with a question behind each line that tells an answer. */
    private static String asking(String program) {
        StringBuilder text = new StringBuilder();
        int answers = 0;
        for (String line : program.split("\n")) {
            text.append(line).append('\n');
            if (HEAD.equals(line + "\n")) {
                text.append(ASKED);
            }
            Matcher m = ANSWER.matcher(line);
            if (m.matches()) {
                answers++;
                text.append("due(\"").append(m.group(2)).append("\", ").append(m.group(2)).append(", (")
                        .append(m.group(1)).append(") ").append(bracketed(m.group(3))).append(");\n");
            }
        }
        CHECK.due("the program tells answers", answers >= 25, true);
        return text.toString();
    }

    private static String bracketed(String value) {
        return "(" + value + ")";
    }

    private static int ended(String... command) throws IOException, InterruptedException {
        return new ProcessBuilder(command).inheritIO().start().waitFor();
    }

    /** The rows of calls: each call of the face in one of them, with the number of its promise. */
    private static void calls(String page) throws IOException {
        Map<String, Integer> promises = promises();
        Set<String> left = new TreeSet<>();
        for (Method m : TwoLevel.class.getDeclaredMethods()) {
            if (Modifier.isPublic(m.getModifiers())) {
                left.add(m.getName());
            }
        }
        for (String line : page.split("\n")) {
            if (!line.startsWith("| ")) {
                continue;
            }
            String[] cells = line.split(" *\\| *");
            Set<Integer> due = new TreeSet<>();
            Matcher m = TOLD.matcher(cells[2]);
            while (m.find()) {
                CHECK.due("a call of the face, once: " + m.group(1), left.remove(m.group(1)), true);
                due.add(promises.getOrDefault(m.group(1), -1));
            }
            if (!due.isEmpty()) {
                CHECK.due("the promises " + cells[3] + " are " + due, numbers(cells[3]).equals(due), true);
            }
        }
        CHECK.due("calls that stand in no row: " + left, left.size(), 0);
    }

    private static Map<String, Integer> promises() throws IOException {
        Map<String, Integer> found = new HashMap<>();
        Matcher m = Pattern.compile("(?m)^## Promise (\\d+): (\\w+)$")
                .matcher(Files.readString(Path.of("../shared/DOC.md")));
        while (m.find()) {
            found.put(m.group(2), Integer.parseInt(m.group(1)));
        }
        return found;
    }

    private static Set<Integer> numbers(String told) {
        Set<Integer> found = new TreeSet<>();
        for (String part : told.split(", ")) {
            String[] ends = part.split(" to ");
            for (int i = Integer.parseInt(ends[0]); i <= Integer.parseInt(ends[ends.length - 1]); i++) {
                found.add(i);
            }
        }
        return found;
    }

    /** Each test of the project is told of, and no other. */
    private static void tests(String page) throws IOException {
        Set<String> told = new TreeSet<>();
        Matcher m = Pattern.compile("`(\\w+Test)`").matcher(page);
        while (m.find()) {
            told.add(m.group(1));
        }
        List<String> there = new ArrayList<>();
        try (var files = Files.list(Path.of("src/test/java"))) {
            files.map(f -> f.getFileName().toString()).filter(f -> f.endsWith("Test.java"))
                    .forEach(f -> there.add(f.replace(".java", "")));
        }
        CHECK.due("the tests " + there + " are told as " + told, told.equals(new TreeSet<>(there)), true);
    }
}
