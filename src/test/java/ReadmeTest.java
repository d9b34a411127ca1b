import java.io.IOException;
import java.lang.reflect.Method;
import java.lang.reflect.Modifier;
import java.nio.file.Files;
import java.nio.file.Path;
import java.util.List;
import java.util.regex.Pattern;

/** README.md shows answers that are due, names every call and constant, and a command that is there. */
public final class ReadmeTest {
    private static final Checks CHECKS = new Checks("ReadmeTest");
    private static final Path README = Path.of("README.md");

    public static void main(String[] args) throws IOException {
        String text = Files.readString(README);
        example(block(text, "java").lines().toList());
        calls(text);
        constants(text);
        command(block(text, "sh").strip());
        namesOfTests(text);
        CHECKS.finish();
    }

    /** What stands in the only block of this language. */
    private static String block(String text, String language) {
        String[] parts = text.split("\n```" + language + "\n", -1);
        CHECKS.due("blocks of " + language, parts.length - 1, 1);
        return parts.length < 2 ? "" : parts[1].substring(0, parts[1].indexOf("\n```"));
    }

    private static void example(List<String> lines) {
        CHECKS.holds("the example makes an object",
                lines.get(0).equals("PacketTraceback x = new PacketTraceback();"));
        PacketTraceback x = new PacketTraceback();
        NaiveTraceback naive = new NaiveTraceback();
        for (String line : lines.subList(1, lines.size())) {
            List<Call.Answered> calls = Call.Answered.in(line.replaceFirst("^x\\.(.*); +// ", "$1 = "));
            CHECKS.due("calls with an answer in the line " + line, calls.size(), 1);
            for (Call.Answered due : calls) {
                CHECKS.due(line, due.call().on(x), due.answer());
                CHECKS.due(line + " of NaiveTraceback", due.call().on(naive), due.answer());
            }
        }
    }

    private static void calls(String text) {
        for (Method method : PacketTraceback.class.getDeclaredMethods()) {
            if (Modifier.isPublic(method.getModifiers())) {
                Pattern listed = Pattern.compile("(?m)^\\| `" + method.getName() + "\\(([^)]*)\\)` \\| .+ \\|$");
                List<String> parameters = listed.matcher(text).results().map(found -> found.group(1)).toList();
                CHECKS.due("rows for " + method.getName(), parameters.size(), 1);
                for (String list : parameters) {
                    int count = list.isEmpty() ? 0 : list.split(", ").length;
                    CHECKS.due("parameters of " + method.getName(), count, method.getParameterCount());
                }
            }
        }
    }

    private static void constants(String text) {
        String[] names = {"NO_SUCH_ROUTER", "BAD_VALUE", "DUPLICATE", "FULL", "NO_SUCH_NODE", "TOO_MANY",
            "NONE"};
        for (int place = 0; place < names.length; place++) {
            CHECKS.holds("a row for " + names[place],
                    text.contains("\n| `" + names[place] + "` | -" + (place + 1) + " | "));
        }
    }

    private static void command(String command) {
        CHECKS.holds("the command is " + command, command.equals(".ci/run"));
        CHECKS.holds("the command can be run", Files.isExecutable(Path.of(command)));
    }

    private static void namesOfTests(String text) throws IOException {
        try (var files = Files.list(Path.of("src/test/java"))) {
            for (Path file : files.sorted().toList()) {
                String name = file.getFileName().toString().replace(".java", "");
                CHECKS.holds("README.md tells of " + name, text.contains("`" + name + "`"));
            }
        }
    }
}
