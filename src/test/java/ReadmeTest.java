import java.io.ByteArrayOutputStream;
import java.io.IOException;
import java.io.PrintStream;
import java.lang.reflect.Method;
import java.lang.reflect.Modifier;
import java.net.URL;
import java.net.URLClassLoader;
import java.nio.file.Files;
import java.nio.file.Path;
import java.util.ArrayList;
import java.util.Arrays;
import java.util.Comparator;
import java.util.List;
import java.util.regex.Matcher;
import java.util.regex.Pattern;
import java.util.stream.Stream;
import javax.tools.ToolProvider;

/** README.md holds as it is printed. */
public final class ReadmeTest {
    private static final Path PAGE = Path.of("README.md");
    private static final Pattern EXAMPLE = Pattern.compile("```java\n(.*?)```", Pattern.DOTALL);
    private static final Pattern SAID = Pattern.compile("System\\.out\\.println\\((.*)\\);\\s*// (-?\\d+)(:.*)?");

    private final Check check = new Check();
    private final String page;

    private ReadmeTest(String page) {
        this.page = page;
    }

    private void looksAtExample() throws IOException, ReflectiveOperationException {
        Matcher example = EXAMPLE.matcher(page);
        check.holds("there is an example", example.find());
        String source = example.group(1);
        List<String> calls = new ArrayList<>();
        List<String> answers = new ArrayList<>();
        for (String line : source.split("\n")) {
            Matcher said = SAID.matcher(line.strip());
            check.holds("its answer is told: " + line, said.matches() == line.contains("println"));
            if (said.matches()) {
                calls.add(said.group(1));
                answers.add(said.group(2));
            }
        }
        List<String> printed = run(source);
        check.due("lines printed by the example", answers.size(), printed.size());
        for (int i = 0; i < Math.min(answers.size(), printed.size()); i++) {
            check.due("the example's " + calls.get(i), Long.parseLong(answers.get(i)), Long.parseLong(printed.get(i)));
        }
        check.holds("the example has answers", answers.size() > 20);
        for (String refusal : new String[] {"-101", "-102", "-1000", "-1"}) {
            check.holds("the example shows " + refusal, answers.contains(refusal));
        }
    }

    private List<String> run(String source) throws IOException, ReflectiveOperationException {
        Path room = Files.createTempDirectory("readme");
        Path file = Files.writeString(room.resolve("Example.java"), source);
        int code = ToolProvider.getSystemJavaCompiler().run(null, null, null, "-proc:none", "-d", room.toString(),
            file.toString(), "src/main/java/StoneFurrows.java");
        check.due("javac of the example", 0, code);
        ByteArrayOutputStream said = new ByteArrayOutputStream();
        PrintStream before = System.out;
        try (URLClassLoader loader = new URLClassLoader(new URL[] {room.toUri().toURL()})) {
            System.setOut(new PrintStream(said, true));
            loader.loadClass("Example").getMethod("main", String[].class).invoke(null, (Object) new String[0]);
        } finally {
            System.setOut(before);
            remove(room);
        }
        return said.toString().lines().toList();
    }

    private static void remove(Path room) throws IOException {
        try (Stream<Path> all = Files.walk(room)) {
            for (Path path : all.sorted(Comparator.reverseOrder()).toList()) {
                Files.delete(path);
            }
        }
    }

    private void looksAtLists() throws IOException {
        for (Method m : StoneFurrows.class.getDeclaredMethods()) {
            if (Modifier.isPublic(m.getModifiers())) {
                int arguments = m.getParameterCount();
                String inside = arguments == 0 ? "" : "\\w+" + ", \\w+".repeat(arguments - 1);
                boolean told = Pattern.compile("`" + m.getName() + "\\(" + inside + "\\)`").matcher(page).find();
                check.holds("the page tells " + m.getName() + " with " + arguments + " arguments", told);
            }
        }
        for (String constant : new String[] {"NONE", "UNKNOWN", "OUTSIDE", "STATE", "FULL"}) {
            check.holds("the page tells " + constant, page.contains("`" + constant + "` (" + valueOf(constant) + ")"));
        }
        try (Stream<Path> all = Files.list(Path.of("src/test/java"))) {
            for (Path file : all.toList()) {
                String name = file.getFileName().toString().replace(".java", "");
                check.holds("the page tells what " + name + " holds", page.contains("`" + name + "`"));
            }
        }
        Matcher said = Pattern.compile("`(\\w+(?:Test|Edges))`").matcher(page);
        while (said.find()) {
            check.holds(said.group(1) + " is there", Files.exists(Path.of("src/test/java", said.group(1) + ".java")));
        }
    }

    private static int valueOf(String constant) {
        return Arrays.stream(StoneFurrows.class.getFields()).filter(f -> f.getName().equals(constant))
            .mapToInt(f -> {
                try {
                    return f.getInt(null);
                } catch (IllegalAccessException e) {
                    throw new IllegalStateException(e);
                }
            }).findFirst().orElse(0);
    }

    public static void main(String[] args) throws IOException, ReflectiveOperationException {
        ReadmeTest test = new ReadmeTest(Files.readString(PAGE));
        test.looksAtExample();
        test.looksAtLists();
        test.check.end();
    }
}
