import java.io.IOException;
import java.nio.file.Files;
import java.nio.file.Path;
import java.util.LinkedHashSet;
import java.util.Set;

/** Tests that quote the document: each of their sentences must stand in it. */
class Sentences extends Answers {
    private static final Set<String> QUOTED = new LinkedHashSet<>();

    static void sentence(String words) {
        QUOTED.add(words);
        about("'" + words + "'");
    }

    /** Looks for the quoted sentences in the document, the only argument, and ends the test. */
    static void endWith(String[] args) {
        if (args.length > 0) {
            lookFor(Path.of(args[0]));
        }
        System.out.println(QUOTED.size() + " sentences are quoted");
        end();
    }

    private static void lookFor(Path document) {
        about("the document");
        try {
            String text = plain(Files.readString(document));
            for (String words : QUOTED) {
                due("whether it says '" + words + "'", text.contains(plain(words)) ? 1 : 0, 1);
            }
        } catch (IOException e) {
            due("reading " + document, 0, 1);
        }
    }

    /** Without what marks lists and code, and with one space at most. */
    private static String plain(String text) {
        return text.replace("`", "").replaceAll("\\s+", " ");
    }
}
