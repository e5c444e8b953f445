import java.io.File;
import java.io.IOException;
import java.net.URL;
import java.net.URLClassLoader;
import java.nio.file.Files;
import java.nio.file.Path;
import java.util.ArrayList;
import java.util.List;
import java.util.regex.Matcher;
import java.util.regex.Pattern;
import javax.tools.ToolProvider;

/** The example of README.md is compiled and run: each call answers, or throws, what its line says behind it. */
public final class ReadmeTest {
    private static final Path README = Path.of("README.md");
    private static final String CLASS_PATH = System.getProperty("java.class.path");

    private static final String BEGIN = "ParoleCards house = new ParoleCards();";
    private static final Pattern LINE =
        Pattern.compile(" {4}(?:int (\\w+) = )?(house\\.(\\w+)\\(.*\\)); +// (answers|throws) ([^: ]+)(?:: .*)?");

    /** Each call of the face is shown at least once. */
    private static final int CALLS = Face.class.getDeclaredMethods().length;

    public static void main(String[] args) throws IOException, ReflectiveOperationException {
        Path directory = Files.createTempDirectory("readme");
        Path source = directory.resolve("ReadmeExample.java");
        Files.writeString(source, program(exampleLines()));
        String[] options = {"--release", "17", "-cp", CLASS_PATH, "-d", directory.toString(), source.toString()};
        if (ToolProvider.getSystemJavaCompiler().run(null, null, null, options) != 0) {
            System.out.println("ReadmeTest: the example of README.md does not compile");
            System.exit(1);
        }
        run(directory);
    }

    private static List<String> exampleLines() throws IOException {
        List<String> lines = Files.readAllLines(README);
        List<String> example = new ArrayList<>(lines.subList(lines.indexOf("## Use"), lines.indexOf("## Tests")));
        example.removeIf(line -> !line.startsWith("    ") || line.startsWith("    javac "));
        return example;
    }

    private static String program(List<String> example) {
        StringBuilder program = new StringBuilder("public final class ReadmeExample {\n"
            + "    public static void main(String[] args) {\n"
            + "        Due due = new Due(\"ReadmeTest\");\n"
            + "        java.util.Set<String> shown = new java.util.TreeSet<>();\n");
        for (String line : example) {
            program.append("        ").append(line.strip().equals(BEGIN) ? BEGIN : statement(line)).append("\n");
        }
        return program.append("        due.equal(\"calls shown\", ").append(CALLS).append(", shown.size());\n")
            .append("        due.end();\n    }\n}\n").toString();
    }

    private static String statement(String line) {
        Matcher found = LINE.matcher(line);
        if (!found.matches()) {
            return "due.equal(\"a line that tells no answer\", \"" + BEGIN + "\", \"" + line.strip() + "\");";
        }
        String variable = found.group(1);
        String call = found.group(2);
        String shown = "shown.add(\"" + found.group(3) + "\"); ";
        if (found.group(4).equals("throws")) {
            String made = "Due.outcome(() -> { " + call + "; return 0; })";
            return shown + check(call, "throws." + found.group(5), made);
        }
        if (variable != null) {
            return shown + "int " + variable + " = " + call + "; " + check(call, found.group(5), "\"\" + " + variable);
        }
        return shown + check(call, found.group(5), "\"\" + " + call);
    }

    private static String check(String call, String want, String got) {
        return "due.equal(\"" + call + "\", \"" + want + "\", " + got + ");";
    }

    /** In a loader of its own, where the example and the classes it uses are in one package. */
    private static void run(Path directory) throws IOException, ReflectiveOperationException {
        List<URL> places = new ArrayList<>(List.of(directory.toUri().toURL()));
        for (String place : CLASS_PATH.split(File.pathSeparator)) {
            places.add(Path.of(place).toUri().toURL());
        }
        try (URLClassLoader loader =
                new URLClassLoader(places.toArray(new URL[0]), ClassLoader.getPlatformClassLoader())) {
            Class<?> example = loader.loadClass("ReadmeExample");
            example.getMethod("main", String[].class).invoke(null, (Object) new String[0]);
        }
    }
}
