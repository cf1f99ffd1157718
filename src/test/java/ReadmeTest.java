import java.io.ByteArrayOutputStream;
import java.io.IOException;
import java.io.PrintStream;
import java.lang.reflect.Method;
import java.lang.reflect.Modifier;
import java.net.URL;
import java.net.URLClassLoader;
import java.nio.charset.StandardCharsets;
import java.nio.file.Files;
import java.nio.file.Path;
import java.util.ArrayList;
import java.util.List;
import java.util.regex.Matcher;
import java.util.regex.Pattern;
import javax.tools.JavaCompiler;
import javax.tools.ToolProvider;

/** README.md says how the class is used: its example compiles and prints what stands behind its lines. Run in the project's folder. */
public final class ReadmeTest {
    private static final Telling T = new Telling();

    private ReadmeTest() {
    }

    public static void main(String[] args) throws IOException, ReflectiveOperationException {
        String readme = Files.readString(Path.of("README.md"));
        example(readme);
        names(readme);
        T.close("ReadmeTest");
    }

    private static void example(String readme) throws IOException, ReflectiveOperationException {
        Matcher block = Pattern.compile("(?s)```java\n(.*?)```").matcher(readme);
        T.due("an example", block.find(), true);
        List<String> due = new ArrayList<>();
        Matcher rows = Pattern.compile("println\\(.*\\); +// (-?\\d+)").matcher(block.group(1));
        while (rows.find()) {
            due.add(rows.group(1));
        }
        List<String> printed = run(block.group(1));
        T.due("rows", due.size() > 0 && due.size() == printed.size(), true);
        for (int i = 0; i < due.size() && i < printed.size(); i++) {
            T.due("row " + i + " of the example", Long.parseLong(printed.get(i)), Long.parseLong(due.get(i)));
        }
    }

    private static List<String> run(String source) throws IOException, ReflectiveOperationException {
        Path folder = Files.createTempDirectory("readme");
        Path file = folder.resolve("Example.java");
        Files.writeString(file, source);
        JavaCompiler compiler = ToolProvider.getSystemJavaCompiler();
        if (compiler == null) {
            throw new IllegalStateException("no compiler: java is not the JDK's");
        }
        int failed = compiler.run(null, null, null, "-Xlint:all", "-Werror", "-cp",
                System.getProperty("java.class.path"), "-d", folder.toString(), file.toString());
        T.due("the example compiles", failed, 0);
        PrintStream out = System.out;
        ByteArrayOutputStream caught = new ByteArrayOutputStream();
        try (URLClassLoader loader = new URLClassLoader(new URL[] {folder.toUri().toURL()});
                PrintStream to = new PrintStream(caught, true, StandardCharsets.UTF_8)) {
            System.setOut(to);
            loader.loadClass("Example").getMethod("main", String[].class).invoke(null, (Object) new String[0]);
        } finally {
            System.setOut(out);
        }
        for (String name : new String[] {"Example.java", "Example.class"}) {
            Files.deleteIfExists(folder.resolve(name));
        }
        Files.deleteIfExists(folder);
        return caught.toString(StandardCharsets.UTF_8).lines().toList();
    }

    /** Every call of the face, every word of a text and every test is named. */
    private static void names(String readme) throws IOException {
        for (Method method : FathomNight.class.getDeclaredMethods()) {
            if (Modifier.isPublic(method.getModifiers())) {
                T.due("call " + method.getName(), readme.contains("`" + method.getName() + "`"), true);
            }
        }
        for (String word : "houses door cat plain mother child rich wine poppy stands mark cap fine free rate shared begin go sound wait caught quiet"
                .split(" ")) {
            T.due("word " + word, Pattern.compile("`" + word + "\\b").matcher(readme).find(), true);
        }
        try (var files = Files.list(Path.of("src/test/java"))) {
            for (Path file : files.toList()) {
                String name = file.getFileName().toString().replace(".java", "");
                T.due("file " + name, name.startsWith("Promise") || readme.contains("`" + name + "`"), true);
            }
        }
    }
}
