import java.io.IOException;
import java.nio.file.Files;
import java.nio.file.Path;
import java.util.List;
import java.util.regex.Matcher;
import java.util.regex.Pattern;

/** Prints a test program, ReadmeTest, that makes the calls of README.md and checks what stands behind them. */
public final class ReadmeExamples {
    private static final Pattern ANSWER = Pattern.compile("(?:int (\\w+) = )?(\\S.*);\\s+// -> ([^:]+)(: .*)?");
    private static final Pattern REFUSAL = Pattern.compile("(\\S.*);\\s+// throws (\\w+)(: .*)?");

    public static void main(String[] args) throws IOException {
        List<String> page = Files.readAllLines(Path.of(args[0]));
        System.out.println("public final class ReadmeTest {");
        System.out.println("    private static final int NONE = CoverMeter.NONE;");
        System.out.println("    public static void main(String[] args) {");
        System.out.println("        Check check = new Check(\"ReadmeTest\");");
        boolean inExample = false;
        for (int i = 0; i < page.size(); i++) {
            String line = page.get(i);
            if (line.startsWith("```")) {
                inExample = line.equals("```java");
            } else if (inExample) {
                System.out.println("        " + tested(line, "\"README.md, line " + (i + 1) + "\""));
            }
        }
        System.out.println("        check.end();");
        System.out.println("    }");
        System.out.println("}");
    }

    private static String tested(String line, String place) {
        Matcher answer = ANSWER.matcher(line);
        if (answer.matches()) {
            return tested(place, answer.group(1), answer.group(2), answer.group(3));
        }
        Matcher refusal = REFUSAL.matcher(line);
        if (refusal.matches()) {
            return "check.refused(" + place + ", meter, " + refusal.group(2) + ".class, () -> "
                    + refusal.group(1) + ");";
        }
        // A mark that is not understood would make an example that nobody checks.
        if (line.contains("//")) {
            throw new IllegalArgumentException(place + " is marked in another way");
        }
        return line;
    }

    private static String tested(String place, String name, String call, String due) {
        if (name == null) {
            return "check.is(" + place + ", " + call + ", " + due + ");";
        }
        return "int " + name + " = " + call + "; check.is(" + place + ", " + name + ", " + due + ");";
    }
}
