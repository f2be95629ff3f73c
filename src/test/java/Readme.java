import java.io.IOException;
import java.nio.file.Files;
import java.nio.file.Path;
import java.util.regex.Matcher;
import java.util.regex.Pattern;

/**
 * Makes a test, ReadmeRun, of the README's example: each call behind which an answer is told must give it. The
 * arguments are the README and the file of the test.
 */
public final class Readme {
    private static final Pattern EXAMPLE = Pattern.compile("```java\n(.*?)```", Pattern.DOTALL);
    private static final Pattern TOLD = Pattern.compile("(x\\.(\\w+)\\(.*?\\)); +// (-?\\d+).*");

    public static void main(String[] args) throws IOException {
        Matcher example = EXAMPLE.matcher(Files.readString(Path.of(args[0])));
        StringBuilder test = new StringBuilder("public final class ReadmeRun extends Answers {\n"
            + "    public static void main(String[] args) {\n        about(\"README\");\n");
        int told = 0;
        while (example.find()) {
            for (String line : example.group(1).split("\n")) {
                Matcher m = TOLD.matcher(line);
                boolean answered = m.matches();
                told += answered ? 1 : 0;
                test.append(answered ? "due(\"" + m.group(1) + "\", " + m.group(1) + ", " + m.group(3) + ");" : line);
                test.append('\n');
            }
        }
        if (told == 0) {
            System.out.println("no answer is told in " + args[0]);
            System.exit(1);
        }
        Path file = Path.of(args[1]);
        Files.createDirectories(file.toAbsolutePath().getParent());
        Files.writeString(file, test.append("        end();\n    }\n}\n"));
    }
}
