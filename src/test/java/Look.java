import java.util.Map;
import java.util.TreeMap;

/** All that a ferry tells, each under a name, so that two of them can be held side by side. */
final class Look {
    private static final String[] TOLD = {"kind", "size", "load", "chains", "deck", "takes"};
    private static final String[] ON = {"metres", "left", "many"};
    private static final String[] COUNT = {"vehicles", "entries", "acts", "failures"};

    private Look() {
    }

    /** Terms are told by setting them only: each is set to 0 and back. */
    static Map<String, Long> at(FerryDecks ferry, int... vehicles) {
        Map<String, Long> seen = new TreeMap<>();
        for (int what = 0; what < COUNT.length; what++) {
            seen.put(COUNT[what], (long) ferry.count(what));
        }
        for (int i = 0; i < ferry.count(1); i++) {
            seen.put("trace " + i, (long) ferry.trace(i));
        }
        for (int vehicle : vehicles) {
            for (int what = 0; what < TOLD.length; what++) {
                seen.put(TOLD[what] + " " + vehicle, ferry.told(vehicle, what));
            }
        }
        for (int deck = 0; deck < 3; deck++) {
            for (int what = 0; what < ON.length; what++) {
                seen.put(ON[what] + " " + deck, (long) ferry.on(deck, what));
            }
        }
        for (int k = 0; k < 8; k++) {
            int v = ferry.term(k, 0);
            ferry.term(k, v);
            seen.put("T" + k, (long) v);
        }
        seen.put("risk", (long) ferry.risk());
        seen.put("pulled", (long) ferry.pulled());
        seen.put("till", ferry.till());
        return seen;
    }
}
