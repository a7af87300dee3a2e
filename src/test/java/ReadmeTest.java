import java.io.StringWriter;
import java.nio.file.Files;
import java.nio.file.Path;
import java.util.regex.Matcher;
import java.util.regex.Pattern;
import javax.tools.JavaCompiler;
import javax.tools.ToolProvider;

/** The example of README.md: each call that has a number or a constant behind it answers that. */
public final class ReadmeTest {
    private static final String NAME = "ReadmeExample";
    /** A call, maybe with a name for its answer, and what README says that it answers. */
    private static final Pattern CALL = Pattern.compile("^(int \\w+ = )?(room\\..*\\));\\s+// (-?\\d+|NO): \\S.*$");

    private ReadmeTest() {
    }

    public static void main(String[] args) throws Exception {
        String[] lines = Files.readString(Path.of("README.md")).split("\n");
        String source = source(lines);
        Path classes = Path.of(ReadmeTest.class.getProtectionDomain().getCodeSource().getLocation().toURI());
        Path file = classes.resolve(NAME + ".java");
        Files.writeString(file, source);
        JavaCompiler compiler = ToolProvider.getSystemJavaCompiler();
        int failed = compiler.run(null, null, null, "-cp", classes.toString(), "-d", classes.toString(), file.toString());
        Check.due("compiling the example of README.md", failed, 0);
        if (failed == 0) {
            Class.forName(NAME).getDeclaredMethod("run").invoke(null);
        }
        tests(lines);
        Check.end("ReadmeTest");
    }

    /** The example as a class, in which each answer that README tells is looked at. */
    private static String source(String[] lines) {
        StringWriter source = new StringWriter();
        source.write("final class " + NAME + " {\nstatic void run() {\n");
        boolean inside = false;
        int answers = 0;
        for (String line : lines) {
            if (line.startsWith("```")) {
                inside = line.equals("```java");
            } else if (inside) {
                Matcher call = CALL.matcher(line);
                if (call.matches()) {
                    source.write(looksAt(call));
                    answers++;
                } else {
                    boolean answered = line.startsWith("room.") || line.startsWith("int ");
                    Check.due("README.md tells no answer: " + line, answered ? 1 : 0, 0);
                    source.write(line + "\n");
                }
            }
        }
        Check.due("README.md has an example", answers > 0 ? 1 : 0, 1);
        source.write("}\n}\n");
        return source.toString();
    }

    private static String looksAt(Matcher call) {
        String name = call.group(1) == null ? "long answer = " : call.group(1);
        String answer = name.split(" ")[1];
        String want = call.group(3).equals("NO") ? "FewerMan.NO" : call.group(3) + "L";
        String words = "README.md: " + call.group(2).replace("\\", "\\\\").replace("\"", "\\\"");
        String looks = name + call.group(2) + ";\nCheck.due(\"" + words + "\", (long) " + answer + ", " + want + ");\n";
        return call.group(1) == null ? "{ " + looks + "}\n" : looks;
    }

    /** README tells what each test is for. */
    private static void tests(String[] lines) throws Exception {
        String all = String.join("\n", lines);
        try (var files = Files.newDirectoryStream(Path.of("src/test/java"), "*Test.java")) {
            for (Path file : files) {
                String name = file.getFileName().toString().replace(".java", "");
                Check.due("README.md tells of " + name, all.contains("`" + name + "`") ? 1 : 0, 1);
            }
        }
    }
}
