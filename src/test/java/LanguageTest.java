import com.sun.management.ThreadMXBean;
import java.lang.management.ManagementFactory;
import java.lang.reflect.Constructor;
import java.lang.reflect.Field;
import java.lang.reflect.Method;
import java.lang.reflect.Modifier;
import java.nio.charset.StandardCharsets;
import java.nio.file.Files;
import java.nio.file.Path;
import java.util.Arrays;
import java.util.Map;
import java.util.Set;
import java.util.TreeMap;
import java.util.TreeSet;
import java.util.regex.Matcher;
import java.util.regex.Pattern;

/** The public face of the document, and those rules of LANGUAGE.md that a machine can look at. */
public final class LanguageTest {
    private static final Path PROGRAM = Path.of("src", "main", "java", "SeamPictures.java");
    // Each public method with how many ints it takes.
    private static final Map<String, Integer> FACE = new TreeMap<>(Map.ofEntries(
            Map.entry("size", 2), Map.entry("grey", 3), Map.entry("mark", 3), Map.entry("rule", 1),
            Map.entry("dot", 3), Map.entry("say", 1), Map.entry("wipe", 0), Map.entry("fault", 1),
            Map.entry("lay", 1), Map.entry("seam", 2), Map.entry("cost", 2), Map.entry("cut", 1),
            Map.entry("add", 1), Map.entry("least", 2), Map.entry("best", 3), Map.entry("table", 3),
            Map.entry("go", 2), Map.entry("image", 1), Map.entry("restore", 1), Map.entry("count", 1)));
    private static final Map<String, Integer> CONSTANTS = new TreeMap<>(Map.of(
            "UNKNOWN", -1, "OUTSIDE", -2, "STATE", -3, "FULL", -4, "NO", -5, "NONE", -6, "FAULT", -7));
    private static final String[] FORBIDDEN = {
        "\\bthrow\\b", "\\btry\\b", "\\bcatch\\b", "\\bsynchronized\\b", "\\bassert\\b", "\\bimport\\b",
        "\\bpackage\\b", "->", "::", "\\bprotected\\b", "\\bSystem\\.(?!arraycopy\\b)", "Exact\\b",
        "\\bhashCode\\b", "\\btoString\\b", "\\bstatic\\s*\\{", "\\bThread\\b", "\\bObject\\b"};

    private static final Checks checks = new Checks();

    public static void main(String[] args) throws Exception {
        lookAtFace();
        lookAtConstants();
        lookAtClassesInside();
        lookAtText();
        lookAtRoom();
        checks.finish();
    }

    private static void lookAtFace() {
        int modifiers = SeamPictures.class.getModifiers();
        checks.holds("the class is public and final", Modifier.isPublic(modifiers) && Modifier.isFinal(modifiers));
        Constructor<?>[] made = SeamPictures.class.getDeclaredConstructors();
        checks.holds("one constructor, public, without parameters",
                made.length == 1 && Modifier.isPublic(made[0].getModifiers()) && made[0].getParameterCount() == 0);
        Map<String, Integer> seen = new TreeMap<>();
        for (Method m : SeamPictures.class.getDeclaredMethods()) {
            if (!Modifier.isPrivate(m.getModifiers())) {
                checks.holds(m + " is public, and of the object",
                        Modifier.isPublic(m.getModifiers()) && !Modifier.isStatic(m.getModifiers()));
                checks.holds(m + " answers an int", m.getReturnType() == int.class);
                checks.holds(m + " takes ints", Arrays.stream(m.getParameterTypes()).allMatch(t -> t == int.class));
                checks.holds(m + " stands once", seen.put(m.getName(), m.getParameterCount()) == null);
            }
        }
        checks.holds("the face is " + FACE + ", not " + seen, FACE.equals(seen));
    }

    private static void lookAtConstants() throws IllegalAccessException {
        Map<String, Integer> seen = new TreeMap<>();
        for (Field f : SeamPictures.class.getDeclaredFields()) {
            int modifiers = f.getModifiers();
            if (Modifier.isPrivate(modifiers)) {
                continue;
            }
            checks.holds(f + " is a public constant",
                    Modifier.isPublic(modifiers) && Modifier.isStatic(modifiers) && Modifier.isFinal(modifiers));
            seen.put(f.getName(), f.getInt(null));
        }
        checks.holds("the constants are " + CONSTANTS + ", not " + seen, CONSTANTS.equals(seen));
    }

    private static void lookAtClassesInside() {
        Class<?>[] inside = SeamPictures.class.getDeclaredClasses();
        checks.holds("at most twelve classes", inside.length + 1 <= 12);
        lookAtClass(SeamPictures.class);
        for (Class<?> c : inside) {
            int modifiers = c.getModifiers();
            checks.holds(c + " is static", Modifier.isStatic(modifiers));
            checks.holds(c + " is private or package-visible",
                    !Modifier.isPublic(modifiers) && !Modifier.isProtected(modifiers));
            lookAtClass(c);
            for (Method m : c.getDeclaredMethods()) {
                checks.holds(m + " does not bear the name of a public one", !FACE.containsKey(m.getName()));
            }
        }
    }

    private static void lookAtClass(Class<?> c) {
        int ofObject = 0;
        for (Field f : c.getDeclaredFields()) {
            if (Modifier.isStatic(f.getModifiers())) {
                checks.holds(f + " is final", Modifier.isFinal(f.getModifiers()));
            } else {
                ofObject++;
            }
        }
        checks.holds(c + " has at most twenty fields", ofObject <= 20);
        Set<String> open = new TreeSet<>();
        Set<String> hidden = new TreeSet<>();
        for (Method m : c.getDeclaredMethods()) {
            checks.holds(m + " takes at most seven parameters", m.getParameterCount() <= 7);
            (Modifier.isPrivate(m.getModifiers()) ? hidden : open).add(m.getName());
        }
        hidden.retainAll(open);
        checks.holds(c + ": private methods with the name of another: " + hidden, hidden.isEmpty());
    }

    private static void lookAtText() throws Exception {
        String text = Files.readString(PROGRAM, StandardCharsets.US_ASCII);
        String code = text.replaceAll("(?s)/\\*.*?\\*/", "").replaceAll("//[^\n]*", "");
        for (String word : FORBIDDEN) {
            Matcher m = Pattern.compile(word).matcher(code);
            checks.holds("no " + word + " in the program", !m.find());
        }
        lookAtLengths(code.split("\n"));
    }

    /** A method begins at a line that ends with ') {' one step inside its class, and ends at the brace below. */
    private static void lookAtLengths(String[] lines) {
        Pattern head = Pattern.compile("^( {4}| {8})(?! )(?!for|if|while|switch).*\\) \\{$");
        for (int i = 0; i < lines.length; i++) {
            Matcher m = head.matcher(lines[i]);
            if (m.matches()) {
                int end = i;
                while (end < lines.length && !lines[end].equals(m.group(1) + "}")) {
                    end++;
                }
                checks.holds("at most sixty lines: " + lines[i].trim(), end < lines.length && end - i < 60);
            }
        }
    }

    /** No call makes anything, so whatever is called 512 times fits the room. */
    private static void lookAtRoom() {
        ThreadMXBean threads = (ThreadMXBean) ManagementFactory.getThreadMXBean();
        long thread = Thread.currentThread().getId();
        SeamPictures x = new SeamPictures();
        callEverything(x);
        long before = threads.getThreadAllocatedBytes(thread);
        long onlyAsking = threads.getThreadAllocatedBytes(thread) - before;
        before = threads.getThreadAllocatedBytes(thread);
        callEverything(x);
        long made = threads.getThreadAllocatedBytes(thread) - before - onlyAsking;
        checks.due("bytes that calls make", made, 0);
        before = threads.getThreadAllocatedBytes(thread);
        SeamPictures another = new SeamPictures();
        made = threads.getThreadAllocatedBytes(thread) - before - onlyAsking;
        checks.holds("an object of " + made + " bytes is small", made < 40000 && another.count(0) == 4);
    }

    private static void callEverything(SeamPictures x) {
        for (int rule = 0; rule < 2; rule++) {
            x.size(8, 8);
            x.rule(rule);
            for (int i = 0; i < 71; i++) {
                x.say(i % 9 == 8 ? '/' : '0' + i * i % 10);
            }
            x.fault(0);
            x.lay(0);
            x.say('k');
            x.wipe();
            x.mark(3, 3, 1);
            x.grey(4, 4, 0);
            x.dot(4, 4, 3);
            x.least(0, 3);
            x.seam(1, -1);
            x.cost(0, 44444444);
            x.best(3, 3, 0);
            x.table(3, 3, 0);
            x.image(0);
            x.go(3, 3);
            x.restore(0);
            x.cut(0);
            x.add(0);
            x.count(2);
        }
    }
}
