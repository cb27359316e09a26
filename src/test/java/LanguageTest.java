import java.io.IOException;
import java.nio.file.Files;
import java.nio.file.Path;
import java.util.List;
import java.util.regex.Matcher;
import java.util.regex.Pattern;

/** The rules of LANGUAGE.md that can be seen in the text of the class. */
public final class LanguageTest {
    private static final Path SOURCE = Path.of("src/main/java/CurveTies.java");
    private static final List<String> FORBIDDEN = List.of(
            "\\b(throw|throws|try|catch|finally|synchronized|assert|package|import|native|volatile)\\b",
            "\\b(double|float|Object|System|Random|Thread|Runtime)\\b",
            "->", "::", "\\w+Exact\\b", "\\bstatic\\s*\\{", "\\b(equals|hashCode|toString)\\b");
    private static final int MOST_LINES = 60;
    private static final int MOST_PARAMETERS = 7;
    private static final Due due = new Due();

    public static void main(String[] args) throws IOException {
        String code = withoutComments(Files.readString(SOURCE));
        for (String form : FORBIDDEN) {
            Matcher found = Pattern.compile(form).matcher(code);
            due.is("places of " + form, found.results().count(), 0);
        }
        due.is("characters beyond 255", code.chars().filter(c -> c > 255).count(), 0);
        methods(code);
        due.end();
    }

    private static String withoutComments(String text) {
        return text.replaceAll("(?s)/\\*.*?\\*/", "").replaceAll("//[^\\n]*", "");
    }

    private static void methods(String code) {
        Matcher head = Pattern.compile("\\n( +)[^\\n;=]*?(\\w+)\\(([^()\\n;]*)\\) \\{\\n").matcher(code);
        int found = 0;
        while (head.find()) {
            if (head.group().matches("(?s)\\s*(if|for|while|switch|\\}|else).*")) {
                continue;
            }
            found++;
            int end = code.indexOf("\n" + head.group(1) + "}", head.end() - 1);
            long lines = code.substring(head.start(), end).lines().count();
            due.is(head.group(2) + " is short", lines <= MOST_LINES ? 1 : 0, 1);
            due.is(head.group(2) + " has few parameters", head.group(3).split(",").length <= MOST_PARAMETERS ? 1 : 0, 1);
        }
        due.is("methods were found", found >= 15 ? 1 : 0, 1);
    }
}
