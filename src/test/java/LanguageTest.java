import java.io.IOException;
import java.lang.reflect.Field;
import java.lang.reflect.Method;
import java.lang.reflect.Modifier;
import java.nio.file.Files;
import java.nio.file.Path;
import java.util.ArrayList;
import java.util.List;
import java.util.Set;
import java.util.TreeSet;
import java.util.regex.Matcher;
import java.util.regex.Pattern;

/** The rules of LANGUAGE.md that can be seen in the program's text, or by reflection. */
public final class LanguageTest {
    private static final String PROGRAM = "src/main/java/FerryDecks.java";
    private static final String[] FORBIDDEN = {
        "\\b(throw|throws|try|catch|synchronized|assert|import|package)\\b",
        "->", "::", "Exact\\b", "\\bstatic\\s*\\{", "\\bnew\\s+\\w+\\s*\\([^)]*\\)\\s*\\{",
        "\\b(hashCode|toString|Random|System|Thread|Object)\\b", "\\[\\]\\s*\\["
    };
    private static final Set<Class<?>> CONSTANT_TYPES = Set.of(
            int.class, long.class, boolean.class, char.class, String.class,
            int[].class, long[].class, char[].class, byte[].class);

    public static void main(String[] args) throws IOException {
        words();
        List<Class<?>> classes = new ArrayList<>(List.of(FerryDecks.class.getDeclaredClasses()));
        classes.add(FerryDecks.class);
        Due.is("rule 11: at most twelve classes", Math.max(classes.size(), 12), 12);
        for (Class<?> one : classes) {
            methods(one);
            fields(one);
        }
        Due.end();
    }

    private static void words() throws IOException {
        String text = Files.readString(Path.of(PROGRAM));
        String code = text.replaceAll("(?s)/\\*.*?\\*/", "").replaceAll("//[^\n]*", "");
        for (String forbidden : FORBIDDEN) {
            Matcher found = Pattern.compile(forbidden).matcher(code);
            Due.is("'" + forbidden + "' in the program", found.find() ? 1 : 0, 0);
        }
        Due.is("characters above 255", text.chars().filter(c -> c > 255).count(), 0);
    }

    private static void methods(Class<?> one) {
        Set<String> face = new TreeSet<>();
        for (Method method : FerryDecks.class.getDeclaredMethods()) {
            if (Modifier.isPublic(method.getModifiers())) {
                face.add(method.getName());
            }
        }
        for (Method method : one.getDeclaredMethods()) {
            String name = one.getSimpleName() + "." + method.getName();
            boolean isOfTheFace = one == FerryDecks.class && Modifier.isPublic(method.getModifiers());
            Due.is("rule 1: " + name + " has a name of the face",
                    face.contains(method.getName()) ? 1 : 0, isOfTheFace ? 1 : 0);
            Due.is("rule 11: parameters of " + name, Math.max(method.getParameterCount(), 7), 7);
        }
    }

    private static void fields(Class<?> one) {
        int held = 0;
        for (Field field : one.getDeclaredFields()) {
            if (!Modifier.isStatic(field.getModifiers())) {
                held++;
                continue;
            }
            String name = one.getSimpleName() + "." + field.getName();
            Due.is("rule 5: " + name + " is final", Modifier.isFinal(field.getModifiers()) ? 1 : 0, 1);
            Due.is("rule 5: " + name + "'s type", CONSTANT_TYPES.contains(field.getType()) ? 1 : 0, 1);
        }
        Due.is("rule 11: fields of " + one.getSimpleName(), Math.max(held, 20), 20);
    }
}
