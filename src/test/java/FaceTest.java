import java.lang.reflect.Constructor;
import java.lang.reflect.Field;
import java.lang.reflect.Method;
import java.lang.reflect.Modifier;
import java.util.Set;
import java.util.TreeSet;

/** The public face of the document, and rule 1 of LANGUAGE.md: nothing else is to be seen. */
public final class FaceTest {
    private static final Set<String> METHODS = Set.of(
            "int term(int,int)", "int deck(int,int)", "int vehicle(int,int,int)",
            "long ask(int,int,int)", "int trace(int)", "int board(int,int,int,int)",
            "int leave(int)", "int risk()", "int pull(int,int)", "int pulled()",
            "long told(int,int)", "int on(int,int)", "long till()", "int count(int)");

    public static void main(String[] args) {
        constants();
        methods();
        classesInside();
        Due.end();
    }

    private static void constants() {
        Due.is("BAD", FerryDecks.BAD, -1);
        Due.is("FULL", FerryDecks.FULL, -2);
        Due.is("STATE", FerryDecks.STATE, -3);
        Due.is("LACK", FerryDecks.LACK, -4);
        Due.is("CAST", FerryDecks.CAST, -5);
        Set<String> seen = new TreeSet<>();
        for (Field field : FerryDecks.class.getDeclaredFields()) {
            if (!Modifier.isPrivate(field.getModifiers())) {
                seen.add(field.getName());
            }
        }
        same("fields", seen, Set.of("BAD", "FULL", "STATE", "LACK", "CAST"));
    }

    private static void methods() {
        Set<String> seen = new TreeSet<>();
        for (Method method : FerryDecks.class.getDeclaredMethods()) {
            if (!Modifier.isPrivate(method.getModifiers())) {
                seen.add(signature(method));
            }
        }
        same("methods", seen, METHODS);
        Constructor<?>[] constructors = FerryDecks.class.getDeclaredConstructors();
        Due.is("constructors", constructors.length, 1);
        Due.is("constructor's parameters", constructors[0].getParameterCount(), 0);
        Due.is("public constructor", constructors[0].getModifiers(), Modifier.PUBLIC);
        Due.is("public final class", FerryDecks.class.getModifiers(), Modifier.PUBLIC | Modifier.FINAL);
    }

    private static void classesInside() {
        for (Class<?> inside : FerryDecks.class.getDeclaredClasses()) {
            int modifiers = inside.getModifiers();
            boolean hidden = !Modifier.isPublic(modifiers) && !Modifier.isProtected(modifiers);
            Due.is(inside + " static and hidden", hidden && Modifier.isStatic(modifiers) ? 1 : 0, 1);
        }
    }

    private static String signature(Method method) {
        StringBuilder text = new StringBuilder();
        for (Class<?> type : method.getParameterTypes()) {
            text.append(text.length() == 0 ? "" : ",").append(type.getSimpleName());
        }
        return method.getReturnType().getSimpleName() + " " + method.getName() + "(" + text + ")";
    }

    private static void same(String what, Set<String> got, Set<String> want) {
        Due.is(what + " " + got, got.equals(want) ? 1 : 0, 1);
    }
}
