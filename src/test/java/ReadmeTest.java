import java.io.IOException;
import java.nio.file.Files;
import java.nio.file.Path;
import java.util.regex.Matcher;
import java.util.regex.Pattern;
import javax.tools.ToolProvider;

/** Compiles the examples of README.md and looks whether they answer what stands behind their "//". */
public final class ReadmeTest {
    private static final Pattern ANSWERED =
        Pattern.compile("(?:(int|long) (\\w+) = )?(planner\\..*);\\s*// (-?\\d+).*");

    public static void main(String[] args) throws Exception {
        Path folder = Path.of(System.getProperty("java.class.path"));
        Path source = folder.resolve("ReadmeExamples.java");
        Files.writeString(source, program());
        int wrong = ToolProvider.getSystemJavaCompiler().run(null, null, null,
            "-cp", folder.toString(), "-d", folder.toString(), source.toString());
        Check.due("what javac says to the examples", wrong, 0);
        if (wrong == 0) {
            Class.forName("ReadmeExamples").getMethod("run").invoke(null);
        }
        Check.end();
    }

    private static String program() throws IOException {
        StringBuilder text = new StringBuilder("public final class ReadmeExamples {\n"
            + "public static void run() {\n");
        boolean inside = false;
        for (String line : Files.readAllLines(Path.of("README.md"))) {
            if (line.startsWith("```")) {
                inside = line.equals("```java");
            } else if (inside) {
                text.append(checked(line)).append('\n');
            }
        }
        return text.append("}\n}\n").toString();
    }

    /** The line, with a look at its answer if it tells one. */
    private static String checked(String line) {
        Matcher parts = ANSWERED.matcher(line.strip());
        if (!parts.matches()) {
            return line;
        }
        String call = parts.group(3);
        String due = "Check.due(\"README.md: " + call.replace("\"", "'") + "\", ";
        if (parts.group(2) == null) {
            return due + call + ", " + parts.group(4) + ");";
        }
        return parts.group(1) + " " + parts.group(2) + " = " + call + ";\n"
            + due + parts.group(2) + ", " + parts.group(4) + ");";
    }
}
