import java.io.ByteArrayOutputStream;
import java.io.File;
import java.io.IOException;
import java.io.PrintStream;
import java.lang.reflect.Method;
import java.net.URL;
import java.net.URLClassLoader;
import java.nio.file.Files;
import java.nio.file.Path;
import java.util.ArrayList;
import java.util.List;
import javax.tools.ToolProvider;

/** README.md: its program prints what it says there, and it names each call and each test. */
public final class ReadmeTest {
    private static final String BLOCK = "```";
    private static final String PRINTS = "// prints ";

    public static void main(String[] args) throws IOException, ReflectiveOperationException {
        String readme = Files.readString(Path.of("README.md"));
        String program = firstProgram(readme);
        List<String> due = duePrints(program);
        List<String> got = printsOf(program);
        if (due.isEmpty() || !got.equals(due)) {
            Run.fail("README.md's program prints " + got + ", due is " + due);
        }
        namesEachCall(readme);
        namesEachTest(readme);
        Run.end();
    }

    private static String firstProgram(String readme) {
        String opening = BLOCK + "java\n";
        int start = readme.indexOf(opening);
        int end = start < 0 ? -1 : readme.indexOf(BLOCK, start + opening.length());
        return end < 0 ? "" : readme.substring(start + opening.length(), end);
    }

    private static List<String> duePrints(String program) {
        List<String> due = new ArrayList<>();
        for (String line : program.lines().toList()) {
            int at = line.indexOf(PRINTS);
            if (at >= 0) {
                due.add(line.substring(at + PRINTS.length()).trim());
            }
        }
        return due;
    }

    private static List<String> printsOf(String program)
            throws IOException, ReflectiveOperationException {
        Path directory = Files.createTempDirectory("readme");
        Path source = directory.resolve("Example.java");
        try {
            Files.writeString(source, program);
            int failed = ToolProvider.getSystemJavaCompiler().run(null, null, null, "-d",
                directory.toString(), "-cp", System.getProperty("java.class.path"), source.toString());
            return failed == 0 ? printsOfMain(directory) : List.of("does not compile");
        } finally {
            for (File file : directory.toFile().listFiles()) {
                file.delete();
            }
            directory.toFile().delete();
        }
    }

    private static List<String> printsOfMain(Path directory)
            throws IOException, ReflectiveOperationException {
        ByteArrayOutputStream printed = new ByteArrayOutputStream();
        PrintStream usual = System.out;
        try (URLClassLoader loader = new URLClassLoader(new URL[] {directory.toUri().toURL()})) {
            System.setOut(new PrintStream(printed));
            Class<?> example = loader.loadClass("Example");
            example.getMethod("main", String[].class).invoke(null, (Object) new String[0]);
        } finally {
            System.setOut(usual);
        }
        return printed.toString().lines().toList();
    }

    private static void namesEachCall(String readme) {
        for (Method method : Cowmeadow.class.getMethods()) {
            if (method.getDeclaringClass() == Cowmeadow.class) {
                named(readme, method.getName());
            }
        }
    }

    private static void namesEachTest(String readme) {
        String[] files = new File("src/test/java").list();
        for (String file : files == null ? new String[0] : files) {
            named(readme, file.replace(".java", ""));
        }
    }

    private static void named(String readme, String name) {
        if (!readme.contains("`" + name + "`")) {
            Run.fail("README.md does not name " + name);
        }
    }
}
