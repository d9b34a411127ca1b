import java.io.IOException;
import java.lang.reflect.Field;
import java.lang.reflect.Method;
import java.lang.reflect.Modifier;
import java.nio.file.Files;
import java.nio.file.Path;
import java.util.Set;
import java.util.TreeSet;
import java.util.regex.Pattern;

/** The class has the document's face and no other, and its text keeps to LANGUAGE.md. */
public final class FaceTest {
    private static final Checks CHECKS = new Checks("FaceTest");
    private static final Path SOURCE = Path.of("src/main/java/PacketTraceback.java");
    private static final Set<String> METHODS = Set.of(
            "addRouter/2", "routerCount/0", "depth/1", "digest/1", "fragment/2",
            "setMarkingPercent/1", "setSeed/1", "clearMarks/0", "sendPackets/2", "sendForged/5",
            "packetsAtDistance/1", "unmarkedCount/0", "markCount/3", "fragmentCount/2",
            "greatestDistance/0", "isPathComplete/1", "packetsNeeded/2", "reconstruct/0",
            "nodeCount/0", "nodeAddress/1", "nodeDistance/1", "nodeParent/1", "nodeRouter/1",
            "falseNodeCount/0", "nodeOf/1");
    private static final Set<String> CONSTANTS = Set.of("NO_SUCH_ROUTER", "BAD_VALUE", "DUPLICATE",
            "FULL", "NO_SUCH_NODE", "TOO_MANY", "NONE");

    public static void main(String[] args) throws IOException {
        constants();
        publicMembers();
        membersInside();
        sourceText();
        CHECKS.finish();
    }

    private static void constants() {
        CHECKS.due("NO_SUCH_ROUTER", PacketTraceback.NO_SUCH_ROUTER, -1);
        CHECKS.due("BAD_VALUE", PacketTraceback.BAD_VALUE, -2);
        CHECKS.due("DUPLICATE", PacketTraceback.DUPLICATE, -3);
        CHECKS.due("FULL", PacketTraceback.FULL, -4);
        CHECKS.due("NO_SUCH_NODE", PacketTraceback.NO_SUCH_NODE, -5);
        CHECKS.due("TOO_MANY", PacketTraceback.TOO_MANY, -6);
        CHECKS.due("NONE", PacketTraceback.NONE, -7);
    }

    private static void publicMembers() {
        Class<?> face = PacketTraceback.class;
        CHECKS.holds("the class is public and final",
                Modifier.isPublic(face.getModifiers()) && Modifier.isFinal(face.getModifiers()));
        CHECKS.holds("no package", face.getPackageName().isEmpty());
        CHECKS.due("constructors", face.getDeclaredConstructors().length, 1);
        CHECKS.due("public constructors without parameters", face.getConstructors().length, 1);
        Set<String> found = new TreeSet<>();
        for (Method m : face.getDeclaredMethods()) {
            if (!Modifier.isPrivate(m.getModifiers())) {
                found.add(m.getName() + "/" + m.getParameterCount());
                CHECKS.holds(m + " is public, of an object, and answers int", m.getReturnType() == int.class
                        && Modifier.isPublic(m.getModifiers()) && !Modifier.isStatic(m.getModifiers()));
            }
        }
        CHECKS.holds("methods " + found, found.equals(METHODS));
        Set<String> fields = new TreeSet<>();
        for (Field f : face.getDeclaredFields()) {
            if (!Modifier.isPrivate(f.getModifiers())) {
                fields.add(f.getName());
            }
        }
        CHECKS.holds("constants " + fields, fields.equals(CONSTANTS));
    }

    private static void membersInside() {
        Set<String> publicNames = new TreeSet<>();
        METHODS.forEach(m -> publicNames.add(m.substring(0, m.indexOf('/'))));
        Class<?>[] inside = PacketTraceback.class.getDeclaredClasses();
        CHECKS.holds("at most twelve classes", inside.length <= 11);
        for (Class<?> c : inside) {
            CHECKS.holds(c + " is static", Modifier.isStatic(c.getModifiers()));
            CHECKS.due(c + " classes of its own", c.getDeclaredClasses().length, 0);
            checkMethods(c, publicNames);
            checkFields(c);
        }
        for (Method m : PacketTraceback.class.getDeclaredMethods()) {
            CHECKS.holds(m + " has its name alone",
                    !Modifier.isPrivate(m.getModifiers()) || !publicNames.contains(m.getName()));
        }
        checkFields(PacketTraceback.class);
    }

    private static void checkMethods(Class<?> c, Set<String> publicNames) {
        for (Method m : c.getDeclaredMethods()) {
            CHECKS.holds(m + " has no public method's name", !publicNames.contains(m.getName()));
            CHECKS.holds(m + " has at most seven parameters", m.getParameterCount() <= 7);
        }
    }

    private static void checkFields(Class<?> c) {
        int ofObject = 0;
        for (Field f : c.getDeclaredFields()) {
            if (Modifier.isStatic(f.getModifiers())) {
                CHECKS.holds(f + " is final", Modifier.isFinal(f.getModifiers()));
            } else {
                ofObject++;
            }
        }
        CHECKS.holds(c + " has at most twenty fields", ofObject <= 20);
    }

    private static void sourceText() throws IOException {
        String text = Files.readString(SOURCE);
        String code = text.replaceAll("(?s)/\\*.*?\\*/", "").replaceAll("//[^\n]*", "");
        for (String word : new String[] {"throw", "throws", "try", "catch", "synchronized", "assert",
            "System", "Random", "Thread", "package", "double", "float"}) {
            CHECKS.holds("no word " + word, !Pattern.compile("\\b" + word + "\\b").matcher(code).find());
        }
        CHECKS.holds("no lambda", !code.contains("->"));
        CHECKS.holds("no method reference", !code.contains("::"));
        CHECKS.holds("signs below 128", text.chars().allMatch(c -> c < 128));
        String imports = String.join(",", code.lines().filter(l -> l.startsWith("import")).toList());
        CHECKS.holds("imports " + imports, imports.equals("import java.util.Arrays;"));
    }
}
