import java.io.IOException;
import java.lang.reflect.Field;
import java.lang.reflect.Method;
import java.lang.reflect.Modifier;
import java.nio.file.Files;
import java.nio.file.Path;
import java.util.HashSet;
import java.util.List;
import java.util.Set;
import java.util.regex.Matcher;
import java.util.regex.Pattern;

/** What can be seen of the rules of LANGUAGE.md in the text of the class and by reflection. It is run from the project's folder. */
public final class LanguageTest {
    private static final Checks checks = new Checks();

    public static void main(String[] args) throws IOException {
        lines();
        Class<?>[] inside = ClerkVotes.class.getDeclaredClasses();
        members(ClerkVotes.class);
        for (Class<?> one : inside) {
            members(one);
            checks.about("language, rule 2");
            checks.holds(one + " is static", Modifier.isStatic(one.getModifiers()));
            checks.holds(one + " is not public", !Modifier.isPublic(one.getModifiers()) && !Modifier.isProtected(one.getModifiers()));
            checks.holds(one + " has no classes inside", one.getDeclaredClasses().length == 0);
        }
        checks.about("language, rule 11");
        checks.holds("there are at most twelve classes", inside.length < 12);
        checks.end();
    }

    private static void members(Class<?> one) {
        Set<String> face = new HashSet<>();
        for (Method method : ClerkVotes.class.getDeclaredMethods()) {
            if (Modifier.isPublic(method.getModifiers())) {
                face.add(method.getName());
            }
        }
        for (Method method : one.getDeclaredMethods()) {
            checks.about("language, rules 1 and 11");
            boolean ofTheFace = one == ClerkVotes.class && Modifier.isPublic(method.getModifiers());
            checks.holds(method + " does not bear the name of a public one", ofTheFace || !face.contains(method.getName()));
            checks.holds(method + " takes at most seven parameters", method.getParameterCount() <= 7);
        }
        int fields = 0;
        for (Field field : one.getDeclaredFields()) {
            checks.about("language, rule 5");
            boolean isStatic = Modifier.isStatic(field.getModifiers());
            checks.holds(field + " is final if it is static", !isStatic || Modifier.isFinal(field.getModifiers()));
            fields += isStatic ? 0 : 1;
        }
        checks.about("language, rule 11");
        checks.holds(one + " has at most twenty fields, but it has " + fields, fields <= 20);
    }

    private static void lines() throws IOException {
        checks.about("language");
        List<String> lines = Files.readAllLines(Path.of("src/main/java/ClerkVotes.java"));
        checks.holds("the class is there", lines.size() > 100);
        int methodStart = -1;
        for (int i = 0; i < lines.size(); i++) {
            String line = lines.get(i);
            String code = withoutComment(line);
            forbidden(i + 1, code, "\\b(package|import|throws?|try|catch|finally|synchronized|assert|native|volatile|yield|var)\\b");
            forbidden(i + 1, code, "->|::|\"|@");
            forbidden(i + 1, code, "\\b(System\\.(?!arraycopy)\\w+|Math\\.\\w*Exact|Object|Thread|Random|equals|hashCode|toString)\\b");
            forbidden(i + 1, code, "\\bstatic (?!final\\b)(?!class\\b)[\\w\\[\\]]+ \\w+ *(=|;)");
            checks.holds("line " + (i + 1) + " has no sign above 126 and no tab", line.chars().allMatch(c -> c >= 32 && c <= 126));
            if (code.matches(" {4,8}(public|private|static|int|boolean|void|long)\\b.*\\) \\{")) {
                methodStart = i;
            }
            if (methodStart >= 0 && code.matches(" {4,8}\\}")) {
                checks.holds("the method in line " + (methodStart + 1) + " is short", i - methodStart <= 60);
                methodStart = -1;
            }
        }
    }

    private static String withoutComment(String line) {
        String start = line.strip();
        if (start.startsWith("/*") || start.startsWith("*")) {
            return "";
        }
        int comment = line.indexOf("//");
        return comment < 0 ? line : line.substring(0, comment);
    }

    private static void forbidden(int number, String code, String pattern) {
        Matcher matcher = Pattern.compile(pattern).matcher(code);
        boolean found = matcher.find();
        checks.holds("line " + number + " is without " + (found ? matcher.group() : ""), !found);
    }
}
