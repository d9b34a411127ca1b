import java.io.IOException;
import java.lang.reflect.Field;
import java.lang.reflect.Method;
import java.lang.reflect.Modifier;
import java.nio.file.Files;
import java.nio.file.Path;
import java.util.Arrays;
import java.util.List;
import java.util.regex.MatchResult;
import java.util.regex.Pattern;

/**
 * What the document says in a form that can be read from it: the face, the constants, the signature
 * of each promise and the five examples. Nothing here is copied, so no slip of the pen is either.
 */
public final class DocumentTest {
    private static final Checks CHECKS = new Checks("DocumentTest");
    private static final Path DOCUMENT = Path.of("../shared/DOC.md");
    private static final Path SOURCE = Path.of("src/main/java/PacketTraceback.java");
    private static final Pattern CONSTANT = Pattern.compile("public static final int (\\w+) = (-?\\d+);");
    private static final Pattern METHOD = Pattern.compile("public (int \\w+\\([\\w, ]*\\));");
    private static final Pattern LISTED_CONSTANT = Pattern.compile("(?m)^- `(\\w+) = (-?\\d+)`: ");
    private static final Pattern PROMISE = Pattern.compile("(?m)^## Promise (\\d+): (.+)\n\n`(.+)`$");
    private static final Pattern EXAMPLE = Pattern.compile("(?m)^(\\d)\\. .+ = .+$");

    public static void main(String[] args) throws IOException {
        String document = Files.readString(DOCUMENT);
        String face = document.substring(document.indexOf("```java"), document.indexOf("## Description"));
        String source = Files.readString(SOURCE);
        constants(find(CONSTANT, face));
        constants(find(LISTED_CONSTANT, document));
        signatures(find(METHOD, face), source);
        promises(find(PROMISE, document), find(METHOD, face));
        examples(find(EXAMPLE, document));
        CHECKS.finish();
    }

    private static List<MatchResult> find(Pattern pattern, String text) {
        return pattern.matcher(text).results().toList();
    }

    private static void constants(List<MatchResult> written) {
        CHECKS.due("constants in the document", written.size(), 7);
        for (MatchResult constant : written) {
            try {
                Field field = PacketTraceback.class.getField(constant.group(1));
                CHECKS.holds(field + " is an int, static and final", field.getType() == int.class
                        && Modifier.isStatic(field.getModifiers()) && Modifier.isFinal(field.getModifiers()));
                CHECKS.due(field.getName(), field.getInt(null), Integer.parseInt(constant.group(2)));
            } catch (NoSuchFieldException | IllegalAccessException e) {
                CHECKS.holds("there is " + constant.group(1), false);
            }
        }
    }

    /** The names of the parameters are to be seen in the source alone. */
    private static void signatures(List<MatchResult> written, String source) {
        CHECKS.due("methods in the document", written.size(), 25);
        CHECKS.holds("the constructor", source.contains("\n    public PacketTraceback() {\n"));
        for (MatchResult method : written) {
            String signature = method.group(1);
            CHECKS.holds(signature, source.contains("\n    public " + signature + " {\n"));
            CHECKS.due("public methods " + signature, timesPublic(signature), 1);
        }
        long ofClass = Arrays.stream(PacketTraceback.class.getDeclaredMethods())
                .filter(method -> !Modifier.isPrivate(method.getModifiers())).count();
        CHECKS.due("methods of the class that are not private", (int) ofClass, written.size());
    }

    private static int timesPublic(String signature) {
        int times = 0;
        for (Method method : PacketTraceback.class.getMethods()) {
            String types = Arrays.toString(method.getParameterTypes()).replaceAll("[\\[\\]]", "");
            String found = method.getReturnType() + " " + method.getName() + "(" + types + ")";
            times += found.equals(signature.replaceAll("int \\w+(?=[,)])", "int")) ? 1 : 0;
        }
        return times;
    }

    /** A promise for the constructor and for each method of the face, in the same order. */
    private static void promises(List<MatchResult> written, List<MatchResult> face) {
        CHECKS.due("promises in the document", written.size(), face.size() + 1);
        for (int place = 0; place < written.size(); place++) {
            MatchResult promise = written.get(place);
            String want = place == 0 ? "PacketTraceback()" : face.get(place - 1).group(1);
            CHECKS.due("the number of promise " + promise.group(2),
                    Integer.parseInt(promise.group(1)), place + 1);
            CHECKS.holds("promise " + (place + 1) + " is of " + want, promise.group(3).equals(want));
        }
    }

    private static void examples(List<MatchResult> written) {
        CHECKS.due("examples in the document", written.size(), 5);
        int calls = 0;
        for (MatchResult example : written) {
            calls += example(example.group(1), example.group());
        }
        CHECKS.due("calls in the examples", calls, 46);
    }

    /** Makes the calls of an example on a new object, and answers how many they are. */
    private static int example(String number, String text) {
        PacketTraceback x = new PacketTraceback();
        NaiveTraceback naive = new NaiveTraceback();
        List<Call.Answered> calls = Call.Answered.in(text);
        CHECKS.due("calls in example " + number, calls.size(), text.split(" = ", -1).length - 1);
        for (Call.Answered due : calls) {
            String name = "example " + number + ": " + due.call().text();
            CHECKS.due(name, due.call().on(x), due.answer());
            CHECKS.due(name + " of NaiveTraceback", due.call().on(naive), due.answer());
        }
        return calls.size();
    }
}
