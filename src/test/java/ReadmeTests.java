import java.io.ByteArrayOutputStream;
import java.io.IOException;
import java.io.UncheckedIOException;
import java.lang.reflect.Method;
import java.lang.reflect.Modifier;
import java.net.URL;
import java.net.URLClassLoader;
import java.nio.charset.StandardCharsets;
import java.nio.file.Files;
import java.nio.file.Path;
import java.util.ArrayList;
import java.util.Comparator;
import java.util.List;
import java.util.regex.Matcher;
import java.util.regex.Pattern;
import java.util.stream.Stream;
import javax.tools.JavaCompiler;
import javax.tools.ToolProvider;

/** What README.md says is so: its example answers what stands behind the calls, and it names all calls and tests. */
public final class ReadmeTests {
    private static final String NEW_OBJECT = "ImageBaker baker = new ImageBaker();";
    private static final Pattern CALL = Pattern.compile("(?:int (\\w+) = )?(baker\\.\\w+\\(.*\\));\\s+// (throws )?(-?\\w+)(?::.*)?");

    private static int wrong = 0;

    public static void main(String[] args) throws Exception {
        String readme = Files.readString(Path.of("README.md"));
        exampleAnswersAsTold(readme);
        namesAllCalls(readme);
        namesAllTests(readme);
        if (wrong > 0) {
            System.out.println(wrong + " sayings of README.md are not so");
            System.exit(1);
        }
        System.out.println("what README.md says is so");
    }

    private static void fail(String what) {
        wrong++;
        System.out.println("README.md: " + what);
    }

    /** The compiled example calls this. */
    public static void due(String call, String want, Object got) {
        if (!want.equals(String.valueOf(got))) {
            fail(call + " answered " + got + ", but it says " + want);
        }
    }

    private static void exampleAnswersAsTold(String readme) throws Exception {
        String fence = "```java\n";
        int begin = readme.indexOf(fence);
        int end = readme.indexOf("```", begin + fence.length());
        if (begin < 0 || end < 0) {
            fail("there is no example");
            return;
        }
        List<String> statements = new ArrayList<>();
        for (String line : readme.substring(begin + fence.length(), end).split("\n")) {
            statements.add(checkedStatement(line));
        }
        runExample(statements);
    }

    private static String checkedStatement(String line) {
        Matcher call = CALL.matcher(line);
        if (line.equals(NEW_OBJECT)) {
            return line;
        }
        if (!call.matches()) {
            fail("the example doesn't tell what is answered: " + line);
            return "";
        }
        String name = call.group(1);
        String asked = call.group(2);
        String told = "ReadmeTests.due(\"" + asked + "\", \"" + call.group(4) + "\", ";
        if (call.group(3) != null) {
            return "try { " + told + asked + "); }"
                + " catch (RuntimeException e) { " + told + "e.getClass().getSimpleName()); }";
        }
        return name == null ? told + asked + ");" : "int " + name + " = " + asked + "; " + told + name + ");";
    }

    private static void runExample(List<String> statements) throws Exception {
        Path folder = Files.createTempDirectory("readme");
        try {
            Path source = folder.resolve("Example.java");
            Files.writeString(source, "public final class Example {\npublic static void run() {\n"
                + String.join("\n", statements) + "\n}\n}\n");
            if (isCompiled(source, folder)) {
                try (URLClassLoader loader = new URLClassLoader(new URL[] {folder.toUri().toURL()})) {
                    loader.loadClass("Example").getMethod("run").invoke(null);
                }
            }
        } finally {
            remove(folder);
        }
    }

    private static boolean isCompiled(Path source, Path folder) {
        JavaCompiler compiler = ToolProvider.getSystemJavaCompiler();
        if (compiler == null) {
            fail("the example can't be compiled: this java has no compiler");
            return false;
        }
        ByteArrayOutputStream told = new ByteArrayOutputStream();
        int code = compiler.run(null, told, told, "-cp", System.getProperty("java.class.path"),
            "-d", folder.toString(), source.toString());
        if (code != 0) {
            fail("the example doesn't compile:\n" + told.toString(StandardCharsets.UTF_8));
        }
        return code == 0;
    }

    private static void remove(Path folder) throws IOException {
        try (Stream<Path> files = Files.walk(folder)) {
            files.sorted(Comparator.reverseOrder()).forEach(ReadmeTests::delete);
        }
    }

    private static void delete(Path file) {
        try {
            Files.delete(file);
        } catch (IOException e) {
            throw new UncheckedIOException(e);
        }
    }

    /** The table shows each call of the face with as many arguments as it has, and no other. */
    private static void namesAllCalls(String readme) {
        List<String> want = new ArrayList<>();
        for (Method method : ImageBaker.class.getDeclaredMethods()) {
            if (Modifier.isPublic(method.getModifiers())) {
                want.add(method.getName() + " " + method.getParameterCount());
            }
        }
        List<String> got = new ArrayList<>();
        Pattern inTable = Pattern.compile("`(\\w+)\\(([\\w, ]*)\\)`");
        for (String line : readme.split("\n")) {
            if (line.startsWith("| `")) {
                Matcher call = inTable.matcher(line.substring(0, line.indexOf('|', 1)));
                while (call.find()) {
                    got.add(call.group(1) + " " + (call.group(2).isEmpty() ? 0 : call.group(2).split(", ").length));
                }
            }
        }
        want.sort(null);
        got.sort(null);
        if (!want.equals(got)) {
            fail("the table shows " + got + ", but the calls are " + want);
        }
    }

    private static void namesAllTests(String readme) throws IOException {
        try (Stream<Path> files = Files.list(Path.of("src/test/java"))) {
            for (Path file : files.toList()) {
                if (!readme.contains("`" + file + "`")) {
                    fail("it doesn't name " + file);
                }
            }
        }
        Matcher path = Pattern.compile("`((?:\\.\\./|\\.ci/|src/)[\\w./]+)`").matcher(readme);
        while (path.find()) {
            if (!Files.exists(Path.of(path.group(1)))) {
                fail("there is no " + path.group(1));
            }
        }
    }
}
