import java.io.IOException;
import java.lang.reflect.InvocationTargetException;
import java.lang.reflect.Method;
import java.lang.reflect.Modifier;
import java.net.URL;
import java.net.URLClassLoader;
import java.nio.file.Files;
import java.nio.file.Path;
import java.util.ArrayList;
import java.util.Arrays;
import java.util.HashSet;
import java.util.List;
import java.util.Set;
import java.util.regex.Matcher;
import java.util.regex.Pattern;
import javax.tools.ToolProvider;

/** The example, the calls and the orders of README.md, as they stand there; run at the root. */
public final class ReadmeTest {
    private static final Checks C = new Checks();
    private static final Path README = Path.of("README.md");
    private static final Pattern TOLD_ANSWER = Pattern.compile("(house\\.\\w+\\(.*?\\)); +// (-?\\d+)\\b.*");
    private static final Pattern ORDER_ROW = Pattern.compile("\\| `([^`]+)` \\| `(\\w+)\\(([^)]*)\\)` \\|");
    private static final Pattern CALLS_ROW = Pattern.compile("\\| (`\\w+`(?:, `\\w+`)*) \\|.*");
    /** Gives each order of the page what it needs to be carried out. */
    private static final String PREPARED = "+0:2*50;l0=900";

    public static void main(String[] args) throws IOException, ReflectiveOperationException {
        List<String> lines = Files.readAllLines(README);
        example(lines);
        calls(lines);
        orders(lines);
        C.end("ReadmeTest");
    }

    private static void example(List<String> lines) throws IOException, ReflectiveOperationException {
        C.about("the example");
        int first = lines.indexOf("```java");
        int last = first + lines.subList(Math.max(first, 0), lines.size()).indexOf("```");
        C.that("there is none", first >= 0 && last > first);
        List<String> code = new ArrayList<>(List.of("public final class ReadmeExample {",
                "static void due(String call, long got, long want) {",
                "if (got != want) { throw new IllegalStateException(call + \" answers \" + got); } }",
                "public static void main(String[] args) {"));
        int answers = 0;
        for (String line : lines.subList(first + 1, last)) {
            Matcher told = TOLD_ANSWER.matcher(line);
            if (told.matches()) {
                answers++;
                code.add("due(\"" + told.group(1) + "\", " + told.group(1) + ", " + told.group(2) + ");");
            } else {
                code.add(line);
            }
        }
        C.that("it tells hardly any answers", answers > 9);
        code.addAll(List.of("}", "}"));
        runExample(code);
    }

    private static void runExample(List<String> code) throws IOException, ReflectiveOperationException {
        Path folder = Files.createTempDirectory("readme");
        Path source = Files.write(folder.resolve("ReadmeExample.java"), code);
        int refused = ToolProvider.getSystemJavaCompiler().run(null, null, null, "-cp",
                System.getProperty("java.class.path"), "-d", folder.toString(), source.toString());
        C.due("the compiler", refused, 0);
        if (refused == 0) {
            try (URLClassLoader loader = new URLClassLoader(new URL[] {folder.toUri().toURL()})) {
                loader.loadClass("ReadmeExample").getMethod("main", String[].class).invoke(null, (Object) new String[0]);
            } catch (InvocationTargetException thrown) {
                C.that(thrown.getCause().toString(), false);
            }
        }
        Files.deleteIfExists(folder.resolve("ReadmeExample.class"));
        Files.delete(source);
        Files.delete(folder);
    }

    private static void calls(List<String> lines) {
        C.about("the calls");
        Set<String> face = new HashSet<>();
        Arrays.stream(PledgeHouse.class.getDeclaredMethods()).filter(method -> Modifier.isPublic(method.getModifiers()))
                .forEach(method -> face.add(method.getName()));
        Set<String> named = new HashSet<>();
        for (String line : lines) {
            Matcher row = CALLS_ROW.matcher(line);
            if (row.matches() && !ORDER_ROW.matcher(line).matches()) {
                for (String name : row.group(1).replace("`", "").split(", ")) {
                    C.that("there is no " + name, face.contains(name));
                    C.that(name + " is named twice", named.add(name));
                }
            }
        }
        C.that("hardly any are named", named.size() > 20);
    }

    private static void orders(List<String> lines) throws ReflectiveOperationException {
        C.about("the orders");
        Set<Character> letters = new HashSet<>();
        for (String line : lines) {
            Matcher row = ORDER_ROW.matcher(line);
            if (row.matches()) {
                letters.add(row.group(1).charAt(0));
                PledgeHouse byText = prepared();
                Houses.follow(byText, row.group(1));
                PledgeHouse byCall = prepared();
                call(byCall, row.group(2), row.group(3));
                C.due("the digest after " + row.group(1), byText.digest(), byCall.digest());
                C.that(row.group(1) + " changes nothing", byText.digest() != prepared().digest());
            }
        }
        C.due("letters of orders", letters.size(), 7);
    }

    private static PledgeHouse prepared() {
        PledgeHouse house = new PledgeHouse();
        Houses.follow(house, PREPARED);
        return house;
    }

    private static void call(PledgeHouse house, String name, String numbers) throws ReflectiveOperationException {
        for (Method method : PledgeHouse.class.getMethods()) {
            if (method.getName().equals(name)) {
                Object[] arguments = Arrays.stream(numbers.split(", ")).map(Integer::valueOf).toArray();
                method.invoke(house, arguments);
            }
        }
    }
}
