import java.io.IOException;
import java.nio.file.Files;
import java.nio.file.Path;
import java.util.regex.Matcher;
import java.util.regex.Pattern;

/** The rules of LANGUAGE.md that can be seen in the program's text: words that it must not hold. */
public final class LanguageTest {
    private static final String PROGRAM = "src/main/java/FerryDecks.java";
    private static final String[] FORBIDDEN = {
        "\\b(throw|throws|try|catch|synchronized|assert|import|package)\\b",
        "->", "::", "Exact\\b", "\\bstatic\\s*\\{", "\\bnew\\s+\\w+\\s*\\([^)]*\\)\\s*\\{",
        "\\b(hashCode|toString|Random|System|Thread|Object)\\b", "\\[\\]\\s*\\["
    };

    public static void main(String[] args) throws IOException {
        String text = Files.readString(Path.of(PROGRAM));
        String code = text.replaceAll("(?s)/\\*.*?\\*/", "").replaceAll("//[^\n]*", "");
        for (String forbidden : FORBIDDEN) {
            Matcher found = Pattern.compile(forbidden).matcher(code);
            Due.is("'" + forbidden + "' in the program", found.find() ? 1 : 0, 0);
        }
        Due.is("characters above 255", text.chars().filter(c -> c > 255).count(), 0);
        Due.end();
    }
}
