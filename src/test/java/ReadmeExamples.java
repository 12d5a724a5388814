import java.io.IOException;
import java.lang.reflect.Method;
import java.lang.reflect.Modifier;
import java.nio.file.Files;
import java.nio.file.Path;
import java.util.Arrays;
import java.util.List;
import java.util.regex.Matcher;
import java.util.regex.Pattern;

/**
 * Makes a program, ReadmeRun, of the examples in README.md (first argument), in a folder (the second).
 * A block of java is a whole program, a method, or a row of calls with their answers in comments.
 */
public final class ReadmeExamples {
    private static final Pattern CALL = Pattern.compile("^(x\\.\\w+\\(.*\\));\\s+// (-?\\d+)\\b.*$");
    private static final Pattern CLASS = Pattern.compile("\\bclass (\\w+)");

    private final List<String> lines;
    private final Path folder;
    private final StringBuilder methods = new StringBuilder();
    private final StringBuilder main = new StringBuilder();
    private String program = "";
    private int calls;

    private ReadmeExamples(List<String> lines, Path folder) {
        this.lines = lines;
        this.folder = folder;
    }

    public static void main(String[] args) throws IOException {
        ReadmeExamples page = new ReadmeExamples(Files.readAllLines(Path.of(args[0])), Path.of(args[1]));
        page.read();
        page.hasEveryCall();
        Due.is("there are examples", page.calls > 0 ? 1 : 0, 1);
        Due.is("what the program prints is told", page.program.isEmpty() ? 1 : 0, 1);
        page.write();
        Due.end();
    }

    private void read() throws IOException {
        for (int at = 0; at < lines.size(); at++) {
            String kind = lines.get(at);
            if (kind.startsWith("```")) {
                int end = at + 1;
                while (end < lines.size() && !lines.get(end).equals("```")) {
                    end++;
                }
                Due.is("README.md:" + (at + 1) + " begins a block that ends", end < lines.size() ? 1 : 0, 1);
                block(kind, at + 1, Math.min(end, lines.size()));
                at = end;
            }
        }
    }

    private void block(String kind, int from, int end) throws IOException {
        List<String> inside = lines.subList(from, end);
        String whole = String.join("\n", inside) + "\n";
        Matcher named = CLASS.matcher(whole);
        if (kind.equals("```text") && !program.isEmpty()) {
            main.append("        Due.same(\"what ").append(program).append(" prints\", Due.printed(() -> ").append(program)
                .append(".main(args)), ").append(quoted(whole)).append(");\n");
            program = "";
        } else if (kind.equals("```java") && named.find()) {
            program = named.group(1);
            Files.writeString(folder.resolve(program + ".java"), whole);
        } else if (kind.equals("```java") && whole.startsWith("static ")) {
            methods.append(whole);
        } else if (kind.equals("```java")) {
            main.append("        block").append(from).append("();\n");
            methods.append("    static void block").append(from).append("() {\n");
            for (int at = from; at < end; at++) {
                methods.append("        ").append(statement(at)).append('\n');
            }
            methods.append("    }\n");
        }
    }

    private String statement(int at) {
        String line = lines.get(at);
        Matcher call = CALL.matcher(line);
        if (!call.find()) {
            Due.is("README.md:" + (at + 1) + " tells what the call answers", line.startsWith("x.") ? 1 : 0, 0);
            return line;
        }
        calls++;
        String name = "README.md:" + (at + 1) + ": " + call.group(1);
        return "Due.is(" + quoted(name) + ", " + call.group(1) + ", " + call.group(2) + "L);";
    }

    private static String quoted(String text) {
        return '"' + text.replace("\\", "\\\\").replace("\"", "\\\"").replace("\n", "\\n") + '"';
    }

    /** Every call of the face has a row in a table, with as many arguments as it takes, and stands in an example. */
    private void hasEveryCall() {
        String whole = String.join("\n", lines);
        for (Method method : Strawless.class.getDeclaredMethods()) {
            if (!Modifier.isPublic(method.getModifiers())) {
                continue;
            }
            Matcher row = Pattern.compile("\n\\| `" + method.getName() + "\\(([^)]*)\\)` \\|").matcher(whole);
            boolean found = row.find();
            Due.is("README.md has a row for " + method.getName(), found ? 1 : 0, 1);
            String[] told = found && !row.group(1).isEmpty() ? row.group(1).split(", ") : new String[0];
            Due.is(method.getName() + " takes " + Arrays.toString(told), told.length, method.getParameterCount());
            Due.is("README.md has an example of " + method.getName(), whole.contains("\nx." + method.getName() + "(") ? 1 : 0, 1);
        }
    }

    private void write() throws IOException {
        Files.write(folder.resolve("ReadmeRun.java"), List.of(
            "final class ReadmeRun {",
            "    public static void main(String[] args) {",
            main.toString(),
            "        Due.end();",
            "    }",
            methods.toString(),
            "}"));
    }
}
