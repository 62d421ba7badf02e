import java.io.IOException;
import java.nio.file.Files;
import java.nio.file.Path;
import java.util.List;
import java.util.regex.Matcher;
import java.util.regex.Pattern;

/** What of LANGUAGE.md can be seen from the source's lines. It is run from the project's folder, as .ci/run does. */
final class LanguageTest {
    private static final Check CHECK = new Check("LanguageTest");
    private static final String[] RULED_OUT = {"^package ", "->", "::", "\\bsynchronized\\b", "\\bassert\\b", "\\bfinally\\b",
        "\\bcatch\\b", "Exact\\(", "System\\.(?!arraycopy)", "\\bdouble\\b", "\\bfloat\\b", "\\binstanceof\\b", "\\bvar\\b",
        "getMessage", "hashCode", "toString", "\" *\\+", "\\+ *\"", "\\bwhile\\b", "static (?!final)[a-z\\[\\]]+ \\w+( =|;)"};
    private static final Pattern HEAD = Pattern.compile("^ {4,8}[A-Za-z].*\\(([^()]*)\\).*\\{$");

    public static void main(String[] args) throws IOException {
        List<String> lines = Files.readAllLines(Path.of("src/main/java/TwoLevel.java"));
        for (String rule : RULED_OUT) {
            Pattern pattern = Pattern.compile(rule);
            for (int i = 0; i < lines.size(); i++) {
                String line = lines.get(i).replaceFirst("^ *(/\\*\\*|\\*|//).*", "");
                CHECK.due("line " + (i + 1) + " has " + rule, pattern.matcher(line).find(), false);
            }
        }
        int classes = 0;
        for (int i = 0; i < lines.size(); i++) {
            String line = lines.get(i);
            CHECK.due("line " + (i + 1) + " is long", line.length() > 120, false);
            if (line.startsWith("import ")) {
                CHECK.due(line, line.matches("import java\\.util\\.(Arrays|ArrayList|List|NoSuchElementException);"), true);
            }
            classes += line.matches(".*\\bclass \\w+ .*\\{") ? 1 : 0;
            method(lines, i);
        }
        CHECK.due("twelve classes at most", classes <= 12, true);
        CHECK.end();
    }

    private static void method(List<String> lines, int start) {
        Matcher head = HEAD.matcher(lines.get(start));
        if (!head.find() || lines.get(start).matches(" *(for|if|switch|while|else|do)\\b.*")) {
            return;
        }
        String indent = lines.get(start).replaceFirst("\\S.*", "");
        int end = start;
        while (!lines.get(end).equals(indent + "}")) {
            end++;
        }
        CHECK.due("lines of the method at " + (start + 1) + " above 60", Math.max(60, end - start + 1), 60);
        int parameters = head.group(1).isEmpty() ? 0 : head.group(1).split(",").length;
        CHECK.due("parameters of the method at " + (start + 1) + " above 7", Math.max(7, parameters), 7);
    }
}
