import java.io.IOException;
import java.net.URI;
import java.net.URL;
import java.net.URLClassLoader;
import java.nio.file.Files;
import java.nio.file.Path;
import java.util.List;
import java.util.regex.Matcher;
import java.util.regex.Pattern;
import javax.tools.JavaCompiler;
import javax.tools.JavaFileObject;
import javax.tools.SimpleJavaFileObject;
import javax.tools.ToolProvider;

/** The calls that README.md shows answer what stands behind them there. */
public final class ReadmeTest {
    private static final Path README = Path.of("README.md");
    private static final Path CLASSES = Path.of("build/readme");
    private static final Pattern SHOWN = Pattern.compile("    (?:\\w+ (\\w+) = )?(.*); *// (-?\\d+|true|false|\"[^\"]*\"|throws \\w+).*");

    private static int answers = 0;
    private static int wrong = 0;

    public static void main(String[] args) throws Exception {
        compile(source(Files.readString(README)));
        try (URLClassLoader loader = new URLClassLoader(new URL[] {CLASSES.toUri().toURL()}, ReadmeTest.class.getClassLoader())) {
            ((Runnable) loader.loadClass("Shown").getConstructor().newInstance()).run();
        }
        System.out.println("readme: " + answers + " answers looked at, " + wrong + " not as due");
        if (wrong != 0 || answers == 0) {
            System.exit(1);
        }
    }

    private static String source(String readme) {
        int from = readme.indexOf("\n## Use\n");
        int to = readme.indexOf("\n## Tests\n");
        if (from < 0 || to < from) {
            throw new IllegalStateException("README.md has no part \"Use\" ahead of its part \"Tests\"");
        }
        StringBuilder source = new StringBuilder("public final class Shown implements Runnable {\npublic void run() {\n");
        for (String line : readme.substring(from, to).split("\n")) {
            if (line.startsWith("    ")) {
                source.append(looked(line)).append('\n');
            }
        }
        return source.append("}\n}\n").toString();
    }

    /** The line of the README, and a look at its answer if one stands behind it. */
    private static String looked(String line) {
        Matcher shown = SHOWN.matcher(line);
        if (!shown.matches()) {
            if (line.startsWith("    pool.")) {
                throw new IllegalStateException("README.md has a call without its answer: " + line.trim());
            }
            return line;
        }
        String call = shown.group(2);
        String told = "\"" + call.replace("\"", "'") + "\", ";
        String want = shown.group(3);
        if (want.startsWith("throws ")) {
            return "ReadmeTest.thrown(" + told + "() -> " + call + ", " + want.substring(7) + ".class);";
        }
        if (shown.group(1) == null) {
            return "ReadmeTest.due(" + told + call + ", " + want + ");";
        }
        return line + "\nReadmeTest.due(" + told + shown.group(1) + ", " + want + ");";
    }

    private static void compile(String source) throws IOException {
        JavaFileObject file = new SimpleJavaFileObject(URI.create("string:///Shown.java"), JavaFileObject.Kind.SOURCE) {
            @Override
            public CharSequence getCharContent(boolean ignoreErrors) {
                return source;
            }
        };
        Files.createDirectories(CLASSES);
        JavaCompiler compiler = ToolProvider.getSystemJavaCompiler();
        List<String> options = List.of("-proc:none", "-d", CLASSES.toString(), "-cp", System.getProperty("java.class.path"));
        if (!compiler.getTask(null, null, null, options, null, List.of(file)).call()) {
            throw new IllegalStateException("what README.md shows does not compile:\n" + source);
        }
    }

    public static void due(String call, Object got, Object want) {
        answers++;
        if (!got.equals(want)) {
            wrong++;
            System.out.println("README.md: " + call + " answered " + got + ", shown is " + want);
        }
    }

    public static void thrown(String call, Runnable body, Class<? extends RuntimeException> want) {
        Object got = "nothing";
        try {
            body.run();
        } catch (RuntimeException e) {
            got = e.getClass();
        }
        due(call + " throws", got, want);
    }
}
