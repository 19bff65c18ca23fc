import java.io.ByteArrayOutputStream;
import java.io.IOException;
import java.io.PrintStream;
import java.lang.reflect.Method;
import java.net.URL;
import java.net.URLClassLoader;
import java.nio.file.Files;
import java.nio.file.Path;
import java.util.ArrayList;
import java.util.Arrays;
import java.util.List;
import java.util.Set;
import java.util.TreeSet;
import java.util.regex.Matcher;
import java.util.regex.Pattern;
import javax.tools.ToolProvider;

/** README.md: its example compiles and prints what its comments say, and it names every method of the face. */
public final class ReadmeTest {
    private static final Path README = Path.of("README.md");
    private static final Pattern PROGRAM = Pattern.compile("```java\n(.*?)```", Pattern.DOTALL);
    private static final Pattern PRINTED = Pattern.compile("println\\(.*\\); +// (.+)");

    public static void main(String[] args) throws ReflectiveOperationException, IOException {
        String readme = Files.readString(README);
        Matcher program = PROGRAM.matcher(readme);
        Check.due("an example", program.find(), true);
        Check.due("the example prints", printedBy(program.group(1)), toldBy(program.group(1)));
        Set<String> left = new TreeSet<>();
        for (Method method : AcousticCamera.class.getDeclaredMethods()) {
            if (java.lang.reflect.Modifier.isPublic(method.getModifiers())
                    && !readme.matches("(?s).*`" + method.getName() + "[`(].*")) {
                left.add(method.getName());
            }
        }
        Check.due("methods that are not named", left, Set.of());
        Check.end();
    }

    private static List<String> toldBy(String program) {
        List<String> told = new ArrayList<>();
        Matcher line = PRINTED.matcher(program);
        while (line.find()) {
            told.add(line.group(1));
        }
        return told;
    }

    private static List<String> printedBy(String program) throws ReflectiveOperationException, IOException {
        Path folder = Files.createTempDirectory("readme");
        Path source = folder.resolve("Example.java");
        PrintStream out = System.out;
        ByteArrayOutputStream printed = new ByteArrayOutputStream();
        try {
            Files.writeString(source, program);
            int failed = ToolProvider.getSystemJavaCompiler().run(null, null, null, "-cp",
                    System.getProperty("java.class.path"), "-d", folder.toString(), source.toString());
            Check.due("the example compiles", failed, 0);
            System.setOut(new PrintStream(printed, true));
            URL[] places = {folder.toUri().toURL()};
            try (URLClassLoader loader = new URLClassLoader(places)) {
                loader.loadClass("Example").getMethod("main", String[].class).invoke(null, (Object) new String[0]);
            }
        } finally {
            System.setOut(out);
            Files.deleteIfExists(source);
            Files.deleteIfExists(folder.resolve("Example.class"));
            Files.deleteIfExists(folder);
        }
        return Arrays.asList(printed.toString().split("\n"));
    }
}
