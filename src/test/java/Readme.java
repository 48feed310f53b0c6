import java.io.StringWriter;
import java.lang.reflect.Method;
import java.lang.reflect.Modifier;
import java.net.URL;
import java.net.URLClassLoader;
import java.nio.file.Files;
import java.nio.file.Path;
import java.util.ArrayList;
import java.util.List;
import java.util.TreeSet;
import java.util.regex.Matcher;
import java.util.regex.Pattern;
import java.util.stream.Stream;
import javax.tools.JavaCompiler;
import javax.tools.ToolProvider;

/** README.md is true: its examples answer what stands behind them, and it names each call and each test. */
public final class Readme {
    private static final Pattern BLOCK = Pattern.compile("(?s)```java\n(.*?)```");
    private static final Pattern ANSWERED = Pattern.compile("x\\.(\\w+\\([^)]*\\)); *// (-?\\d+)(:.*)?");
    private static int answers = 0;
    private static int wrong = 0;

    public static void main(String[] args) throws Exception {
        String page = Files.readString(Path.of("README.md"));
        examples(page);
        calls(page);
        tests(page);
        System.out.println(wrong == 0 ? "README.md is true, with " + answers + " answers" : wrong + " things are not as README.md says");
        if (wrong != 0) {
            System.exit(1);
        }
    }

    private static void due(boolean holds, String what) {
        if (!holds) {
            wrong++;
            System.out.println("README.md: " + what);
        }
    }

    /** Called by what is made of the examples. */
    public static void due(String call, long got, long said) {
        answers++;
        due(got == said, call + " answers " + got + ", not " + said);
    }

    private static void examples(String page) throws Exception {
        StringBuilder source = new StringBuilder("public class Shown { public static void show() {\n");
        int asked = 0;
        for (Matcher block = BLOCK.matcher(page); block.find();) {
            source.append("{\n");
            for (String line : block.group(1).split("\n")) {
                Matcher m = ANSWERED.matcher(line);
                boolean isAnswered = m.matches();
                asked += isAnswered ? 1 : 0;
                due(isAnswered || !line.contains("//"), "no answer can be read in: " + line);
                source.append(isAnswered ? "Readme.due(\"" + m.group(1) + "\", x." + m.group(1) + ", " + m.group(2) + "L);" : line);
                source.append('\n');
            }
            source.append("}\n");
        }
        source.append("} }\n");
        due(asked > 0, "no example");
        show(source.toString());
        due(answers == asked, asked + " answers are told, " + answers + " were asked for");
    }

    private static void show(String source) throws Exception {
        Path dir = Files.createTempDirectory("readme");
        Path file = dir.resolve("Shown.java");
        Path compiled = dir.resolve("Shown.class");
        Files.writeString(file, source);
        JavaCompiler javac = ToolProvider.getSystemJavaCompiler();
        List<String> options = List.of("-cp", System.getProperty("java.class.path"), "-d", dir.toString());
        StringWriter said = new StringWriter();
        boolean compiles = javac.getTask(said, null, null, options, null,
            javac.getStandardFileManager(null, null, null).getJavaFileObjects(file)).call();
        due(compiles, "the examples do not compile: " + said);
        if (compiles) {
            try (URLClassLoader loader = new URLClassLoader(new URL[] {dir.toUri().toURL()}, Readme.class.getClassLoader())) {
                loader.loadClass("Shown").getMethod("show").invoke(null);
            }
        }
        Files.deleteIfExists(compiled);
        Files.deleteIfExists(file);
        Files.deleteIfExists(dir);
    }

    /** Each call stands in just one row of the table, and the table has no other. */
    private static void calls(String page) {
        List<String> named = new ArrayList<>();
        for (String line : page.split("\n")) {
            if (line.startsWith("| `")) {
                Matcher name = Pattern.compile("`(\\w+)`").matcher(line.substring(0, line.indexOf('|', 1)));
                while (name.find()) {
                    named.add(name.group(1));
                }
            }
        }
        TreeSet<String> calls = new TreeSet<>();
        for (Method m : OneAlwaysUp.class.getDeclaredMethods()) {
            if (Modifier.isPublic(m.getModifiers())) {
                calls.add(m.getName());
            }
        }
        due(named.size() == calls.size() && calls.equals(new TreeSet<>(named)), "its calls are " + named + ", there are " + calls);
    }

    private static void tests(String page) throws Exception {
        String list = page.substring(page.indexOf("\n- `") + 1);
        TreeSet<String> named = new TreeSet<>();
        Matcher name = Pattern.compile("`([A-Z][A-Za-z]+)`").matcher(list);
        while (name.find()) {
            named.add(name.group(1));
        }
        TreeSet<String> there = new TreeSet<>();
        try (Stream<Path> files = Files.list(Path.of("src/test/java"))) {
            files.forEach(f -> there.add(f.getFileName().toString().replace(".java", "")));
        }
        due(named.equals(there), "its tests are " + named + ", there are " + there);
    }
}
