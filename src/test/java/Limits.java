import java.io.IOException;
import java.nio.file.Files;
import java.nio.file.Path;

/** Writes a copy of the program with other limits for LimitTest; the arguments are the program and the copy. */
public final class Limits {
    private static final String[][] CHANGES = {
        {"int MAX_MARKINGS = 100;", "int MAX_MARKINGS = 4;"},
        {"int MAX_TEXT = 80;", "int MAX_TEXT = 120;"},
    };

    public static void main(String[] args) throws IOException {
        String source = Files.readString(Path.of(args[0]));
        for (String[] change : CHANGES) {
            if (source.split(java.util.regex.Pattern.quote(change[0]), -1).length != 2) {
                System.out.println("not once in the program: " + change[0]);
                System.exit(1);
            }
            source = source.replace(change[0], change[1]);
        }
        Files.createDirectories(Path.of(args[1]).toAbsolutePath().getParent());
        Files.writeString(Path.of(args[1]), source);
    }
}
