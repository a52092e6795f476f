import java.io.IOException;
import java.nio.file.Files;
import java.nio.file.Path;
import java.util.List;
import java.util.regex.Matcher;
import java.util.regex.Pattern;

/** What can be seen in the text of the class of the rules of LANGUAGE.md. It is run from the project's folder. */
public final class LanguageTest {
    private static final Checks checks = new Checks();

    public static void main(String[] args) throws IOException {
        checks.about("language");
        List<String> lines = Files.readAllLines(Path.of("src/main/java/ClerkVotes.java"));
        checks.holds("the class is there", lines.size() > 100);
        int methodStart = -1;
        for (int i = 0; i < lines.size(); i++) {
            String line = lines.get(i);
            String code = withoutComment(line);
            forbidden(i + 1, code, "\\b(package|import|throws?|try|catch|finally|synchronized|assert|native|volatile|yield|var)\\b");
            forbidden(i + 1, code, "->|::|\"|@");
            forbidden(i + 1, code, "\\b(System\\.(?!arraycopy)\\w+|Math\\.\\w*Exact|Object|Thread|Random|equals|hashCode|toString)\\b");
            forbidden(i + 1, code, "\\bstatic (?!final\\b)(?!class\\b)[\\w\\[\\]]+ \\w+ *(=|;)");
            checks.holds("line " + (i + 1) + " has no sign above 126 and no tab", line.chars().allMatch(c -> c >= 32 && c <= 126));
            if (code.matches(" {4,8}(public|private|static|int|boolean|void|long)\\b.*\\) \\{")) {
                methodStart = i;
            }
            if (methodStart >= 0 && code.matches(" {4,8}\\}")) {
                checks.holds("the method in line " + (methodStart + 1) + " is short", i - methodStart <= 60);
                methodStart = -1;
            }
        }
        checks.end();
    }

    private static String withoutComment(String line) {
        String start = line.strip();
        if (start.startsWith("/*") || start.startsWith("*")) {
            return "";
        }
        int comment = line.indexOf("//");
        return comment < 0 ? line : line.substring(0, comment);
    }

    private static void forbidden(int number, String code, String pattern) {
        Matcher matcher = Pattern.compile(pattern).matcher(code);
        boolean found = matcher.find();
        checks.holds("line " + number + " is without " + (found ? matcher.group() : ""), !found);
    }
}
