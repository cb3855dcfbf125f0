import java.io.IOException;
import java.lang.reflect.InvocationTargetException;
import java.lang.reflect.Method;
import java.lang.reflect.Modifier;
import java.net.URL;
import java.net.URLClassLoader;
import java.nio.file.Files;
import java.nio.file.Path;
import java.util.ArrayList;
import java.util.Comparator;
import java.util.List;
import java.util.Set;
import java.util.TreeSet;
import java.util.regex.Matcher;
import java.util.regex.Pattern;
import java.util.stream.Stream;
import javax.tools.ToolProvider;

/** README.md: its examples answer what stands beside them, and it names each call and each test. */
public final class ReadmeTest {

    private static final Pattern EXAMPLE = Pattern.compile("(?ms)^```java\n(.*?)^```$");
    private static final Pattern TOLD = Pattern.compile("(int (\\w+) = )?(kernel\\.\\w+\\(.*\\)); *"
            + "// (-?\\d+|throws \\w+)(: .*)?");

    private final Checks checks = new Checks("ReadmeTest");
    private final String readme;

    private ReadmeTest(String readme) {
        this.readme = readme;
    }

    public static void main(String[] args) throws Exception {
        ReadmeTest test = new ReadmeTest(Files.readString(Path.of("README.md")));
        test.calls();
        test.tests();
        test.examples();
        test.checks.close();
    }

    private void calls() {
        for (Method method : BeadleKernel.class.getDeclaredMethods()) {
            if (Modifier.isPublic(method.getModifiers())) {
                String name = "`" + method.getName() + "(";
                Matcher matcher = Pattern.compile(Pattern.quote(name) + "([^)]*)\\)`").matcher(readme);
                checks.isTrue("names no " + name, matcher.find());
                matcher.reset();
                while (matcher.find()) {
                    int given = matcher.group(1).isEmpty() ? 0 : matcher.group(1).split(", ").length;
                    checks.same("arguments of " + name, given, method.getParameterCount());
                }
            }
        }
    }

    private void tests() throws IOException {
        checks.isTrue("does not say how to run the tests", readme.contains("`bash .ci/run`"));
        checks.isTrue("names a script that is not there", Files.isExecutable(Path.of(".ci/run")));
        Set<String> there = new TreeSet<>();
        try (Stream<Path> files = Files.list(Path.of("src/test/java"))) {
            files.map(file -> file.getFileName().toString()).filter(name -> name.endsWith("Test.java"))
                    .forEach(name -> there.add(name.replace(".java", "")));
        }
        Set<String> named = new TreeSet<>();
        Matcher matcher = Pattern.compile("\\b\\w+Test\\b").matcher(readme);
        while (matcher.find()) {
            named.add(matcher.group());
        }
        checks.same("the tests that it names", named.toString(), there.toString());
    }

    private void examples() throws Exception {
        Matcher matcher = EXAMPLE.matcher(readme);
        int count = 0;
        while (matcher.find()) {
            count++;
            run("Example" + count, matcher.group(1));
        }
        checks.isTrue("has three examples or more", count >= 3);
    }

    private void run(String name, String example) throws Exception {
        List<String> lines = new ArrayList<>();
        StringBuilder text = new StringBuilder("public final class " + name + " {\n");
        text.append("public static void main(String[] out) {\n");
        for (String line : example.split("\n")) {
            Matcher told = TOLD.matcher(line);
            if (told.matches()) {
                text.append(asking(told, lines.size()));
                lines.add(line);
            } else {
                checks.same("what has no answer beside it", line, "BeadleKernel kernel = new BeadleKernel();");
                text.append(line).append('\n');
            }
        }
        String[] answers = answers(name, text.append("}\n}\n").toString(), lines.size());
        for (int i = 0; i < answers.length; i++) {
            Matcher told = TOLD.matcher(lines.get(i));
            checks.same(name + ": " + lines.get(i), String.valueOf(answers[i]), told.matches() ? told.group(4) : "");
        }
    }

    /** The line as one that puts its answer into out; only one that throws nothing may set a variable. */
    private static String asking(Matcher told, int number) {
        String answer = "out[" + number + "] = ";
        if (told.group(1) != null) {
            return told.group(1) + told.group(3) + ";\n" + answer + "String.valueOf(" + told.group(2) + ");\n";
        }
        return "try { " + answer + "String.valueOf(" + told.group(3) + "); } catch (RuntimeException e) { " + answer
                + "\"throws \" + e.getClass().getSimpleName(); }\n";
    }

    private String[] answers(String name, String text, int size) throws Exception {
        String[] out = new String[size];
        Path place = Files.createTempDirectory("readme");
        try {
            Path file = place.resolve(name + ".java");
            Files.writeString(file, text);
            int failed = ToolProvider.getSystemJavaCompiler().run(null, null, null, "-proc:none", "-cp",
                    System.getProperty("java.class.path"), "-d", place.toString(), file.toString());
            checks.same(name + ": compiling", failed, 0);
            if (failed == 0) {
                call(name, place, out);
            }
        } finally {
            remove(place);
        }
        return out;
    }

    private void call(String name, Path place, String[] out) throws Exception {
        try (URLClassLoader loader = new URLClassLoader(new URL[] {place.toUri().toURL()})) {
            loader.loadClass(name).getMethod("main", String[].class).invoke(null, (Object) out);
        } catch (InvocationTargetException e) {
            checks.isTrue(name + " threw " + e.getCause(), false);
        }
    }

    private static void remove(Path place) throws IOException {
        List<Path> files = new ArrayList<>();
        try (Stream<Path> all = Files.walk(place)) {
            all.sorted(Comparator.reverseOrder()).forEach(files::add);
        }
        for (Path file : files) {
            Files.delete(file);
        }
    }
}
