import java.io.IOException;
import java.nio.file.Files;
import java.nio.file.Path;
import java.util.ArrayList;
import java.util.List;
import java.util.regex.Matcher;
import java.util.regex.Pattern;

/** Prints a test, ReadmeExample, made of README.md's examples: each answer told there is due. */
public final class ReadmeCode {
    private static final Pattern BLOCK = Pattern.compile("(?sm)^```java\\n(.*?)^```$");
    private static final Pattern CALL =
            Pattern.compile("(ledger\\..*);\\s+// (?:throws (\\w+)|(-?\\d+))(?:: .*)?");

    private ReadmeCode() {
    }

    public static void main(String[] args) throws IOException {
        List<String> members = new ArrayList<>();
        List<String> examples = new ArrayList<>();
        Matcher block = BLOCK.matcher(Files.readString(Path.of("README.md")));
        while (block.find()) {
            boolean member = block.group(1).startsWith("static ");
            (member ? members : examples).add(block.group(1));
        }
        System.out.println("public final class ReadmeExample {");
        members.forEach(System.out::println);
        for (int i = 0; i < examples.size(); i++) {
            System.out.println("static void example" + i + "() {");
            examples.get(i).lines().forEach(line -> System.out.println(statement(line)));
            System.out.println("}");
        }
        System.out.println("public static void main(String[] args) {");
        for (int i = 0; i < examples.size(); i++) {
            System.out.println("example" + i + "();");
        }
        System.out.println("Check.end(); } }");
    }

    /** A call of the ledger without its answer is an error, lest a slip of the pen goes unseen. */
    private static String statement(String line) {
        Matcher call = CALL.matcher(line);
        if (!call.matches()) {
            return line.startsWith("ledger.") ? "no answer told: " + line : line;
        }
        String name = "\"README: " + call.group(1) + "\"";
        return call.group(2) != null
                ? "Check.fails(" + name + ", " + call.group(2) + ".class, () -> " + call.group(1) + ");"
                : "Check.same(" + name + ", " + call.group(1) + ", " + call.group(3) + "L);";
    }
}
