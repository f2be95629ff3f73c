import java.nio.file.Files;
import java.nio.file.Path;
import java.util.regex.Matcher;
import java.util.regex.Pattern;

/** Looks in the program's text for what LANGUAGE.md does not leave; its argument is the program's file. */
public final class LanguageTest {
    private static final String[] FORBIDDEN = {
        "\\b(throw|throws|try|catch|finally|synchronized|assert|volatile|native|import|package)\\b",
        "->", "::", "\\b(equals|hashCode|toString)\\s*\\(", "\\b(System\\.(out|err|in|exit|nanoTime|currentTimeMillis))",
        "\\b(Object|Thread|Random|Scanner|Math\\.random|Exception|Error)\\b", "Exact\\(", "static\\s*\\{", "@",
    };

    public static void main(String[] args) throws Exception {
        String source = Files.readString(Path.of(args[0]));
        String code = source.replaceAll("(?s)/\\*.*?\\*/", "").replaceAll("//[^\n]*", "");
        int wrong = 0;
        for (String pattern : FORBIDDEN) {
            Matcher m = Pattern.compile(pattern).matcher(code);
            if (m.find()) {
                wrong++;
                System.out.println("forbidden: " + m.group());
            }
        }
        for (int i = 0; i < source.length(); i++) {
            if (source.charAt(i) > 126) {
                wrong++;
                System.out.println("a sign with the number " + (int) source.charAt(i));
            }
        }
        Matcher statics = Pattern.compile("static (?!final |class )[\\w\\[\\]]+ \\w+( =|;)").matcher(code);
        if (statics.find()) {
            wrong++;
            System.out.println("static state: " + statics.group());
        }
        if (wrong != 0) {
            System.exit(1);
        }
        System.out.println("the language is as due");
    }
}
