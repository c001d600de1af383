import java.io.IOException;
import java.lang.reflect.Method;
import java.lang.reflect.Modifier;
import java.nio.file.Files;
import java.nio.file.Path;
import java.util.Arrays;
import java.util.HashMap;
import java.util.List;
import java.util.Map;
import java.util.regex.Matcher;
import java.util.regex.Pattern;

/** The face of the class, and the rules of ../shared/LANGUAGE.md that can be read off the text; run at the root. */
public final class SourceTest {
    private static final Checks C = new Checks();
    private static final Path SOURCE = Path.of("src/main/java/PledgeHouse.java");
    private static final Path DOCUMENT = Path.of("../shared/DOC.md");
    /** Some heads go on in a second line; what tells the name stands in the first one. */
    private static final Pattern METHOD_HEAD =
            Pattern.compile("( {4}| {8})(?! )(?!new |return )[\\w\\[\\] ]*?(\\w+)\\([^.;]*");
    private static final Pattern CALL = Pattern.compile("\\b(\\w+)\\(");
    private static final List<String> LEFT_OUT = List.of(" -> ", "::", "finally", "synchronized", "assert ", "package ",
            "import static", "catch (", "try {", "Double.", "Float.", "Exact(", "static {", "System.out", "Iterator",
            "public static", "protected ", "float ", "static final double", "instanceof", "String.valueOf");

    public static void main(String[] args) throws IOException {
        String source = Files.readString(SOURCE);
        face(source);
        members();
        words(source);
        lengths(source);
        C.end("SourceTest");
    }

    private static void face(String source) throws IOException {
        C.about("the public face");
        String oneLine = source.replaceAll("\\s+", " ");
        List<String> face = Files.readAllLines(DOCUMENT).stream().map(String::strip)
                .filter(line -> line.startsWith("public ") && line.endsWith(";")).toList();
        C.due("lines of the face", face.size(), 62);
        for (String line : face) {
            String head = line.substring(0, line.length() - 1) + " {";
            C.that("there is no " + head, oneLine.contains(head));
        }
    }

    private static void members() {
        C.about("rule 1");
        Method[] methods = PledgeHouse.class.getDeclaredMethods();
        long open = Arrays.stream(methods).filter(method -> Modifier.isPublic(method.getModifiers())).count();
        C.due("public methods", open, 61);
        for (Method method : methods) {
            int flags = method.getModifiers();
            C.that(method + " is neither public nor private", Modifier.isPublic(flags) || Modifier.isPrivate(flags));
            boolean shared = Modifier.isPrivate(flags) && Arrays.stream(methods)
                    .anyMatch(other -> other != method && other.getName().equals(method.getName()));
            C.that(method + " bears the name of another", !shared);
        }
        C.due("public fields", PledgeHouse.class.getFields().length, 0);
        C.that("the class is not final", Modifier.isFinal(PledgeHouse.class.getModifiers()));
        for (Class<?> inside : PledgeHouse.class.getDeclaredClasses()) {
            C.that(inside + " is not static", Modifier.isStatic(inside.getModifiers()));
        }
    }

    private static void words(String source) {
        C.about("rules 3 to 6 and 13");
        for (String word : LEFT_OUT) {
            C.that("the source has '" + word + "'", !source.contains(word));
        }
        C.that("the source has a sign that is not 1 to 127", source.chars().allMatch(sign -> sign > 0 && sign < 128));
        source.lines().filter(line -> line.startsWith("import "))
                .forEach(line -> C.due(line, line.equals("import java.util.Arrays;"), true));
    }

    private static void lengths(String source) {
        C.about("rule 11");
        List<String> lines = source.lines().toList();
        Map<String, String> bodies = new HashMap<>();
        for (int first = 0; first < lines.size(); first++) {
            C.that("line " + (first + 1) + " is long", lines.get(first).length() <= 120);
            Matcher head = METHOD_HEAD.matcher(lines.get(first));
            if (head.matches()) {
                String end = head.group(1) + "}";
                int last = first;
                while (last < lines.size() && !lines.get(last).equals(end)) {
                    last++;
                }
                C.that("the method at line " + (first + 1) + " is long", last - first <= 60);
                bodies.merge(head.group(2), String.join("\n", lines.subList(first + 1, last)), String::concat);
            }
        }
        C.that("hardly any methods are found", bodies.size() > 100);
        depths(bodies);
    }

    private static void depths(Map<String, String> bodies) {
        for (String name : bodies.keySet()) {
            C.that("calls go more than eight deep from " + name, depth(name, bodies, 1) <= 8);
        }
    }

    /** Methods that share a name count as one, so that the answer is never too low; a recursion goes too deep. */
    private static int depth(String name, Map<String, String> bodies, int above) {
        int deepest = 1;
        Matcher call = CALL.matcher(bodies.get(name));
        while (above <= 8 && call.find()) {
            if (bodies.containsKey(call.group(1))) {
                deepest = Math.max(deepest, 1 + depth(call.group(1), bodies, above + 1));
            }
        }
        return deepest;
    }
}
