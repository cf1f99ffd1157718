import java.io.ByteArrayOutputStream;
import java.io.IOException;
import java.io.OutputStream;
import java.io.PrintStream;
import java.net.URI;
import java.net.URL;
import java.net.URLClassLoader;
import java.nio.file.Files;
import java.nio.file.Path;
import java.util.ArrayList;
import java.util.HashMap;
import java.util.List;
import java.util.Map;
import java.util.concurrent.ExecutorService;
import java.util.concurrent.Executors;
import java.util.concurrent.TimeUnit;
import java.util.regex.Matcher;
import java.util.regex.Pattern;
import javax.tools.FileObject;
import javax.tools.ForwardingJavaFileManager;
import javax.tools.JavaCompiler;
import javax.tools.JavaFileManager;
import javax.tools.JavaFileObject;
import javax.tools.SimpleJavaFileObject;
import javax.tools.StandardJavaFileManager;
import javax.tools.ToolProvider;

/**
 * Breaks the program in one place at a time and says which breaks no case of the promises sees. No part of
 * .ci/run: some of what is left is no break at all, and has to be looked at by hand.
 * Arguments: the folder of the compiled tests (without FathomNight); from, to: which lines (all without).
 */
public final class Mutants {
    private static final int PROMISES = 35;
    private static final long LONGEST_MILLIS = 60000;
    private static final String[][] SWAPS = {
        {" < ", " <= "}, {" <= ", " < "}, {" > ", " >= "}, {" >= ", " > "}, {" == ", " != "}, {" != ", " == "},
        {" && ", " || "}, {" || ", " && "}, {" + ", " - "}, {" - ", " + "}, {" * ", " + "}, {" / ", " * "}, {" % ", " / "},
        {"Math.max", "Math.min"}, {"Math.min", "Math.max"}, {"true", "false"}, {"false", "true"}, {"return NONE;", "return 0;"},
        {"return NO_SUCH;", "return NONE;"}, {": NONE;", ": 0;"}, {": NO_SUCH;", ": NONE;"}, {">>>", ">>"}, {" |= ", " = "},
        {" += ", " = "}, {"!", ""}};
    private static final Pattern NUMBER = Pattern.compile("(?<![\\w.])\\d+(?!\\w)");
    private static final Pattern CONSTANT = Pattern.compile("(?<![\\w.])[A-Z][A-Z_]+(?!\\w)");
    private static final Pattern CONDITION = Pattern.compile("(.*)\\bif \\((.*)\\) \\{");
    private static final Pattern CHOICE = Pattern.compile("(.*(?:return | = )).* \\? (.*) : (.*);");
    private static final Pattern STATEMENT = Pattern.compile("\\s+(?!return|break|continue|int |long |boolean |final |private |static |import )[\\w.\\[\\]]+.*;");

    private Mutants() {
    }

    public static void main(String[] args) throws Exception {
        List<String> lines = Files.readAllLines(Path.of("src/main/java/FathomNight.java"));
        int from = args.length > 1 ? Integer.parseInt(args[1]) : 1;
        int to = args.length > 2 ? Integer.parseInt(args[2]) : lines.size();
        URL tests = Path.of(args[0]).toUri().toURL();
        ExecutorService workers = Executors.newFixedThreadPool(Runtime.getRuntime().availableProcessors());
        PrintStream out = System.out;
        System.setOut(new PrintStream(OutputStream.nullOutputStream()));
        int[] seen = new int[2];
        for (int i = from - 1; i < to; i++) {
            for (String broken : breaksOf(lines.get(i))) {
                List<String> source = new ArrayList<>(lines);
                source.set(i, broken);
                int at = i + 1;
                workers.submit(() -> {
                    String fate = fateOf(String.join("\n", source), tests);
                    synchronized (seen) {
                        seen[fate.equals("LEFT") ? 1 : 0]++;
                        if (fate.equals("LEFT")) {
                            out.println(at + ": " + lines.get(at - 1).trim() + "\n      " + broken.trim());
                        }
                    }
                });
            }
        }
        workers.shutdown();
        workers.awaitTermination(10, TimeUnit.HOURS);
        out.println(seen[0] + " seen, " + seen[1] + " left");
        System.exit(0);
    }

    private static List<String> breaksOf(String line) {
        List<String> broken = new ArrayList<>();
        String code = line.trim();
        if (code.startsWith("*") || code.startsWith("/") || code.startsWith("import")) {
            return broken;
        }
        for (String[] swap : SWAPS) {
            for (int at = line.indexOf(swap[0]); at >= 0; at = line.indexOf(swap[0], at + 1)) {
                broken.add(line.substring(0, at) + swap[1] + line.substring(at + swap[0].length()));
            }
        }
        Matcher m = NUMBER.matcher(line);
        while (m.find()) {
            long number = Long.parseLong(m.group());
            broken.add(line.substring(0, m.start()) + (number + 1) + line.substring(m.end()));
            broken.add(line.substring(0, m.start()) + (number - 1) + line.substring(m.end()));
        }
        m = CONSTANT.matcher(line);
        while (m.find()) {
            broken.add(line.substring(0, m.start()) + "(" + m.group() + " + 1)" + line.substring(m.end()));
            broken.add(line.substring(0, m.start()) + "(" + m.group() + " - 1)" + line.substring(m.end()));
        }
        m = CONDITION.matcher(line);
        if (m.matches()) {
            broken.add(m.group(1) + "if (" + m.group(2) + " || Math.abs(1) == 1) {");
            broken.add(m.group(1) + "if ((" + m.group(2) + ") && Math.abs(1) != 1) {");
        }
        m = CHOICE.matcher(line);
        if (m.matches()) {
            broken.add(m.group(1) + m.group(2) + ";");
            broken.add(m.group(1) + m.group(3) + ";");
        }
        if (STATEMENT.matcher(line).matches()) {
            broken.add("");
        }
        return broken;
    }

    /** SEEN by some case, NONE if it is no program, or LEFT. */
    private static String fateOf(String source, URL tests) {
        try {
            Map<String, byte[]> classes = compiled(source);
            if (classes.isEmpty()) {
                return "NONE";
            }
            String[] fate = {"SEEN"};
            Thread run = new Thread(() -> fate[0] = isSeen(classes, tests) ? "SEEN" : "LEFT");
            run.start();
            run.join(LONGEST_MILLIS);
            if (run.isAlive()) {
                stop(run);
            }
            return fate[0];
        } catch (InterruptedException e) {
            return "NONE";
        }
    }

    @SuppressWarnings({"deprecation", "removal"})
    private static void stop(Thread run) {
        run.stop();
    }

    private static boolean isSeen(Map<String, byte[]> classes, URL tests) {
        try (URLClassLoader loader = new Broken(classes, tests)) {
            Class<?> cases = loader.loadClass("Cases");
            java.lang.reflect.Method of = cases.getDeclaredMethod("of", Class.class);
            java.lang.reflect.Method runOne = cases.getDeclaredMethod("runOne", java.lang.reflect.Method.class);
            of.setAccessible(true);
            runOne.setAccessible(true);
            for (int i = 1; i <= PROMISES; i++) {
                Class<?> promise = loader.loadClass(String.format("Promise%02dTest", i));
                for (Object each : (List<?>) of.invoke(null, promise)) {
                    Object telling = runOne.invoke(null, each);
                    java.lang.reflect.Method wrong = telling.getClass().getDeclaredMethod("wrong");
                    wrong.setAccessible(true);
                    if ((Integer) wrong.invoke(telling) != 0) {
                        return true;
                    }
                }
            }
            return false;
        } catch (ReflectiveOperationException | IOException e) {
            return true;
        }
    }

    /** The broken program beside the tests as they are. */
    private static final class Broken extends URLClassLoader {
        private final Map<String, byte[]> classes;

        Broken(Map<String, byte[]> classes, URL tests) {
            super(new URL[] {tests}, ClassLoader.getPlatformClassLoader());
            this.classes = classes;
        }

        @Override
        protected Class<?> findClass(String name) throws ClassNotFoundException {
            byte[] bytes = classes.get(name);
            return bytes == null ? super.findClass(name) : defineClass(name, bytes, 0, bytes.length);
        }
    }

    private static Map<String, byte[]> compiled(String source) {
        JavaCompiler compiler = ToolProvider.getSystemJavaCompiler();
        Map<String, ByteArrayOutputStream> made = new HashMap<>();
        StandardJavaFileManager files = compiler.getStandardFileManager(d -> { }, null, null);
        JavaFileManager kept = new ForwardingJavaFileManager<JavaFileManager>(files) {
            @Override
            public JavaFileObject getJavaFileForOutput(Location l, String name, JavaFileObject.Kind kind, FileObject by) {
                return new SimpleJavaFileObject(URI.create("mem:///" + name + ".class"), kind) {
                    @Override
                    public OutputStream openOutputStream() {
                        ByteArrayOutputStream bytes = new ByteArrayOutputStream();
                        made.put(name, bytes);
                        return bytes;
                    }
                };
            }
        };
        JavaFileObject text = new SimpleJavaFileObject(URI.create("mem:///FathomNight.java"), JavaFileObject.Kind.SOURCE) {
            @Override
            public CharSequence getCharContent(boolean ignored) {
                return source;
            }
        };
        boolean done = compiler.getTask(null, kept, d -> { }, List.of("-proc:none"), null, List.of(text)).call();
        Map<String, byte[]> classes = new HashMap<>();
        if (done) {
            made.forEach((name, bytes) -> classes.put(name, bytes.toByteArray()));
        }
        return classes;
    }
}
