import java.lang.reflect.Constructor;
import java.lang.reflect.Field;
import java.lang.reflect.Method;

/**
 * Edges that the document names and no run of calls comes to: no act has more than 19 entries,
 * and a MIXED of SIZE 1 has a LENGTH of 2. They are reached in the classes inside.
 */
public final class BehindTheFaceTest {
    private static final int MIXED = 9, LENGTH = 0;

    public static void main(String[] args) throws ReflectiveOperationException {
        traceOf400();
        mixedIsNotBelow1();
        Due.end();
    }

    private static void traceOf400() throws ReflectiveOperationException {
        Due.sentence("400 entries at most (no more are written then)");
        FerryDecks ferry = new FerryDecks();
        ferry.vehicle(MIXED, 5, 0);
        Object trace = field(field(ferry, "bodies"), "written");
        Method write = method(trace, "write", int.class);
        for (int i = 0; i < 400; i++) {
            Due.is("entries", ferry.count(1), i);
            write.invoke(trace, 1000 + i);
        }
        for (int i = 400; i < 410; i++) {
            write.invoke(trace, 1000 + i);
            Due.is("no more are written", ferry.count(1), 400);
        }
        Due.is("the first", ferry.trace(0), 1000);
        Due.is("the last", ferry.trace(399), 1399);
        Due.is("none behind it", ferry.trace(400), FerryDecks.BAD);
        ferry.ask(0, LENGTH, 0);
        Due.trace("the next act", ferry, 90, 60, 0);
    }

    private static void mixedIsNotBelow1() throws ReflectiveOperationException {
        Due.sentence("MIXED: ABOVE less 1, but 1, if that is below 1");
        int[][] lengths = {{1, 2}, {0, 1}, {-1, 1}, {-2, 1}, {-100, 1}};
        for (int[] length : lengths) {
            Due.is("LENGTH of SIZE " + length[0], lengthOfMixed(length[0]), length[1]);
        }
    }

    private static int lengthOfMixed(int size) throws ReflectiveOperationException {
        Class<?> kind = Class.forName("FerryDecks$Vehicle");
        Constructor<?> made = kind.getDeclaredConstructor(int.class, int.class, int.class);
        made.setAccessible(true);
        Object bodies = field(new FerryDecks(), "bodies");
        Method answer = method(bodies, "answer", kind, int.class, int.class);
        return (int) answer.invoke(bodies, made.newInstance(MIXED, size, 0), LENGTH, 0);
    }

    private static Object field(Object of, String name) throws ReflectiveOperationException {
        Field field = of.getClass().getDeclaredField(name);
        field.setAccessible(true);
        return field.get(of);
    }

    private static Method method(Object of, String name, Class<?>... types) throws ReflectiveOperationException {
        Method method = of.getClass().getDeclaredMethod(name, types);
        method.setAccessible(true);
        return method;
    }
}
