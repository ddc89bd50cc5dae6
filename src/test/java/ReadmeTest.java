import java.io.ByteArrayOutputStream;
import java.io.IOException;
import java.io.PrintStream;
import java.lang.reflect.Field;
import java.lang.reflect.Method;
import java.lang.reflect.Modifier;
import java.net.URL;
import java.net.URLClassLoader;
import java.nio.charset.StandardCharsets;
import java.nio.file.Files;
import java.nio.file.Path;
import java.util.ArrayList;
import java.util.Arrays;
import java.util.List;
import java.util.Set;
import java.util.TreeSet;
import java.util.regex.Matcher;
import java.util.regex.Pattern;
import java.util.stream.Collectors;
import java.util.stream.Stream;
import javax.tools.ToolProvider;

/** README.md: its examples answer what it tells, and it tells of each call, constant and test. */
public final class ReadmeTest {
    private static final Pattern BLOCK = Pattern.compile("(?s)```(\\w+)\n(.*?)```");
    private static final Pattern EXAMPLE = Pattern.compile("x\\.(\\w+)\\(([-0-9, ]*)\\);\\s+// ([-\\w]+).*");

    private static final Check CHECK = new Check("ReadmeTest");

    public static void main(String[] args) throws IOException, ReflectiveOperationException {
        String readme = Files.readString(Path.of("README.md"));
        examples(readme);
        wholeProgram(readme);
        texts(readme);
        constants(readme);
        calls(readme);
        tests(readme);
        testsOfSentences(Files.readString(Path.of("TESTS.md")));
        CHECK.close();
    }

    private static List<String> blocks(String readme, String kind) {
        List<String> blocks = new ArrayList<>();
        Matcher matcher = BLOCK.matcher(readme);
        while (matcher.find()) {
            if (matcher.group(1).equals(kind)) {
                blocks.add(matcher.group(2));
            }
        }
        return blocks;
    }

    private static int number(String told) throws ReflectiveOperationException {
        return told.matches("-?\\d+") ? Integer.parseInt(told) : LivedLinks.class.getField(told).getInt(null);
    }

    private static int answer(LivedLinks x, String name, String arguments) throws ReflectiveOperationException {
        List<Integer> told = new ArrayList<>();
        for (String argument : arguments.split(",")) {
            if (!argument.isBlank()) {
                told.add(Integer.valueOf(argument.trim()));
            }
        }
        Class<?>[] types = new Class<?>[told.size()];
        Arrays.fill(types, int.class);
        return (int) LivedLinks.class.getMethod(name, types).invoke(x, told.toArray());
    }

    private static void examples(String readme) throws ReflectiveOperationException {
        int examples = 0;
        for (String block : blocks(readme, "java")) {
            if (block.startsWith("LivedLinks x")) {
                LivedLinks x = new LivedLinks();
                for (String line : block.lines().skip(1).toList()) {
                    Matcher example = EXAMPLE.matcher(line);
                    CHECK.holds("an example: " + line, example.matches());
                    CHECK.due(line, answer(x, example.group(1), example.group(2)), number(example.group(3)));
                    examples++;
                }
            }
        }
        CHECK.holds("examples: " + examples, examples > 25);
    }

    private static void wholeProgram(String readme) throws IOException, ReflectiveOperationException {
        String source = blocks(readme, "java").get(0);
        CHECK.holds("the whole program is the first example", source.startsWith("public final class Try "));
        Path directory = Files.createTempDirectory("readme");
        Path file = directory.resolve("Try.java");
        Files.writeString(file, source);
        int wrong = ToolProvider.getSystemJavaCompiler().run(null, null, null, "-cp", System.getProperty("java.class.path"),
            "-d", directory.toString(), file.toString());
        CHECK.due("the whole program is compiled", wrong, 0);
        String printed = printed(directory);
        CHECK.holds("the whole program prints " + printed, printed.equals(blocks(readme, "text").get(0)));
        for (String made : List.of("Try.java", "Try.class")) {
            Files.delete(directory.resolve(made));
        }
        Files.delete(directory);
    }

    private static String printed(Path directory) throws IOException, ReflectiveOperationException {
        PrintStream out = System.out;
        ByteArrayOutputStream printed = new ByteArrayOutputStream();
        try (URLClassLoader loader = new URLClassLoader(new URL[] {directory.toUri().toURL()});
                PrintStream other = new PrintStream(printed, true, StandardCharsets.UTF_8)) {
            System.setOut(other);
            loader.loadClass("Try").getMethod("main", String[].class).invoke(null, (Object) new String[0]);
        } finally {
            System.setOut(out);
        }
        return printed.toString(StandardCharsets.UTF_8).replace("\r\n", "\n");
    }

    /** The rows behind a heading row, each with its cells. */
    private static List<String[]> table(String readme, String heading) {
        int begin = readme.indexOf("| " + heading + " |");
        CHECK.holds("a table of " + heading, begin >= 0);
        return readme.substring(Math.max(begin, 0)).lines().skip(2).takeWhile(line -> line.startsWith("|"))
            .map(line -> Arrays.stream(line.substring(1).split("\\|")).map(String::trim).toArray(String[]::new)).toList();
    }

    private static void texts(String readme) {
        List<String[]> rows = table(readme, "text | `readLinks()` of a new object");
        for (String[] row : rows) {
            String text = row[0].replace("`", "");
            LivedLinks x = new LivedLinks();
            CHECK.types(x, text);
            CHECK.due("readLinks of '" + text + "'", x.readLinks(), Integer.parseInt(row[1]));
        }
        CHECK.holds("texts: " + rows.size(), rows.size() > 9);
    }

    private static void constants(String readme) throws ReflectiveOperationException {
        Set<String> told = new TreeSet<>();
        for (String[] row : table(readme, "answer | constant | meaning")) {
            if (!row[1].isEmpty()) {
                told.add(row[1].replace("`", ""));
                CHECK.due(row[1], number(row[1].replace("`", "")), Integer.parseInt(row[0]));
            }
        }
        Set<String> all = Arrays.stream(LivedLinks.class.getFields()).map(Field::getName).collect(Collectors.toSet());
        CHECK.holds("the constants that are told: " + told, told.equals(all));
    }

    private static void calls(String readme) {
        for (Method method : LivedLinks.class.getDeclaredMethods()) {
            if (Modifier.isPublic(method.getModifiers())) {
                Matcher row = Pattern.compile("(?m)^\\| `" + method.getName() + "\\(([a-z, ]*)\\)` \\|").matcher(readme);
                CHECK.holds("a row of " + method.getName(), row.find());
                String arguments = row.group(1);
                CHECK.due("arguments of " + method.getName(), arguments.isEmpty() ? 0 : arguments.split(",").length,
                    method.getParameterCount());
                CHECK.holds("one row of " + method.getName(), !row.find());
            }
        }
    }

    private static Set<String> testsThatThereAre() throws IOException {
        try (Stream<Path> files = Files.list(Path.of("src/test/java"))) {
            return files.map(file -> file.getFileName().toString()).filter(name -> name.endsWith("Test.java"))
                .map(name -> name.replace(".java", "")).collect(Collectors.toCollection(TreeSet::new));
        }
    }

    private static void tests(String readme) throws IOException {
        Set<String> told = new TreeSet<>();
        for (String[] row : table(readme, "test | what it holds")) {
            told.addAll(List.of(row[0].replace("`", "").split(", ")));
        }
        CHECK.holds("the tests that are told: " + told, told.equals(testsThatThereAre()));
    }

    /** Each test that TESTS.md names is there, as a class, or as a method of it. */
    private static void testsOfSentences(String tests) throws ReflectiveOperationException {
        Matcher names = Pattern.compile("`(\\w+Test)(?:\\.(\\w+))?`").matcher(tests);
        int found = 0;
        while (names.find()) {
            found++;
            Set<String> methods = Arrays.stream(Class.forName(names.group(1)).getDeclaredMethods()).map(Method::getName)
                .collect(Collectors.toSet());
            CHECK.holds(names.group() + " is there", names.group(2) == null || methods.contains(names.group(2)));
        }
        CHECK.holds("tests that are named: " + found, found > 80);
    }
}
