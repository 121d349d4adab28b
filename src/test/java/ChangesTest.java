import java.util.Map;
import java.util.TreeMap;
import java.util.TreeSet;
import java.util.function.ToLongFunction;

/**
 * What each call changes, and that all else stays: one call on a ferry with a past, held against
 * the same ferry without it. So every refused call is seen to leave what the document says stays.
 */
public final class ChangesTest {
    private static final int CAR = 0, VAN = 1, HOME = 2, SHOW = 3, TRUCK = 4, GAS = 5, MIXED = 6;
    private static final int CARS_DECK = 0, SHORT_DECK = 1, EMPTY_DECK = 2;
    private static final int[] ALL = {CAR, VAN, HOME, SHOW, TRUCK, GAS, MIXED};
    private static final int MIN = Integer.MIN_VALUE, MAX = Integer.MAX_VALUE;
    private static final int[] NO_VEHICLES = {-1, 7, 69, 70, MIN, MAX};
    private static final int[] NO_DECKS = {-1, 3, MIN, MAX};

    private static final Map<String, Long> BEFORE = Look.at(ferry(), ALL);
    private static final String[] SAME = {};
    private static final String ONE_ACT = "acts=12";
    private static final String ONE_FAILURE = "failures=2";

    public static void main(String[] args) {
        asItIsMade();
        term();
        deck();
        vehicle();
        full();
        ask();
        askThatEndsWithCast();
        askThatFails();
        boardThatIsBadOrState();
        boardThatFails();
        boardThatLacks();
        boardThatComes();
        leave();
        pull();
        callsThatOnlyTell();
        Due.end();
    }

    /** CAR on deck 0, all others ashore; chains, the till, the latest risk and pull are not 0. */
    private static FerryDecks ferry() {
        FerryDecks ferry = new FerryDecks();
        int[] terms = {3, 40, 5, 6, 500, 4, 2, 9};
        for (int k = 0; k < terms.length; k++) {
            ferry.term(k, terms[k]);
        }
        ferry.deck(CARS_DECK, 30);
        ferry.deck(SHORT_DECK, 20);
        ferry.vehicle(1, 10, 11);
        ferry.vehicle(2, 12, 13);
        ferry.vehicle(4, 14, 15);
        ferry.vehicle(5, 26, 17);
        ferry.vehicle(6, 8, 501);
        ferry.vehicle(8, 16, 500);
        ferry.vehicle(9, 17, 501);
        ferry.board(CAR, CARS_DECK, 7, 2);
        for (int vehicle : ALL) {
            ferry.ask(vehicle, 3, 6);
        }
        ferry.pull(HOME, 5);
        ferry.ask(TRUCK, 2, 1);
        ferry.ask(HOME, 0, 0);
        return ferry;
    }

    /** The changes are written "name=value"; a trace is given whole, null if it stays. */
    private static void call(String name, ToLongFunction<FerryDecks> call, long answer,
            int[] trace, String... changes) {
        FerryDecks ferry = ferry();
        Due.is(name, call.applyAsLong(ferry), answer);
        Map<String, Long> want = new TreeMap<>(BEFORE);
        if (trace != null) {
            want.keySet().removeIf(key -> key.startsWith("trace "));
            want.put("entries", (long) trace.length);
            for (int i = 0; i < trace.length; i++) {
                want.put("trace " + i, (long) trace[i]);
            }
        }
        for (String change : changes) {
            int cut = change.indexOf('=');
            want.put(change.substring(0, cut), Long.parseLong(change.substring(cut + 1)));
        }
        same(name, Look.at(ferry, ALL), want);
    }

    private static void same(String name, Map<String, Long> got, Map<String, Long> want) {
        TreeSet<String> keys = new TreeSet<>(got.keySet());
        keys.addAll(want.keySet());
        for (String key : keys) {
            Due.is(name + ": then " + key, got.getOrDefault(key, -1L), want.getOrDefault(key, -1L));
        }
    }

    private static int[] entries(int... entries) {
        return entries;
    }

    private static void asItIsMade() {
        Map<String, Long> want = new TreeMap<>(BEFORE);
        String[] known = {
            "vehicles=7", "entries=3", "acts=11", "failures=1", "risk=7", "pulled=20", "till=44",
            "trace 0=40", "trace 1=20", "trace 2=0", "chains 0=6", "chains 1=7", "chains 2=4",
            "chains 3=4", "chains 4=6", "chains 5=12", "chains 6=12", "deck 0=0", "takes 0=10",
            "deck 1=-1", "takes 1=0", "left 0=20", "many 0=1", "left 1=20", "metres 2=0"
        };
        for (String fact : known) {
            int cut = fact.indexOf('=');
            want.put(fact.substring(0, cut), Long.parseLong(fact.substring(cut + 1)));
        }
        same("the ferry that the calls begin with", BEFORE, want);
    }

    private static void term() {
        Due.sentence("2: TERM k becomes v: what it was");
        call("term(0, 1000)", f -> f.term(0, 1000), 3, null, "T0=1000");
        call("term(7, 0)", f -> f.term(7, 0), 9, null, "T7=0");
        Due.sentence("2: BAD");
        for (int k : new int[] {-1, 8, MIN, MAX}) {
            call("term(" + k + ", 1)", f -> f.term(k, 1), FerryDecks.BAD, null, SAME);
        }
        for (int v : new int[] {-1, 1001, MIN, MAX}) {
            call("term(0, " + v + ")", f -> f.term(0, v), FerryDecks.BAD, null, SAME);
            call("term(7, " + v + ")", f -> f.term(7, v), FerryDecks.BAD, null, SAME);
        }
    }

    private static void deck() {
        Due.sentence("3: a DECK has so many METRES: what it had");
        call("deck(0, 10)", f -> f.deck(CARS_DECK, 10), 30, null, "metres 0=10", "left 0=0");
        call("deck(0, 10000)", f -> f.deck(CARS_DECK, 10000), 30, null, "metres 0=10000", "left 0=9990");
        call("deck(1, 0)", f -> f.deck(SHORT_DECK, 0), 20, null, "metres 1=0", "left 1=0");
        Due.sentence("3: LACK: those on it take more");
        for (int metres : new int[] {0, 9}) {
            call("deck(0, " + metres + ")", f -> f.deck(CARS_DECK, metres), FerryDecks.LACK, null, SAME);
        }
        Due.sentence("3: BAD");
        for (int d : NO_DECKS) {
            call("deck(" + d + ", 1)", f -> f.deck(d, 1), FerryDecks.BAD, null, SAME);
        }
        for (int metres : new int[] {-1, 10001, MIN, MAX}) {
            call("deck(0, " + metres + ")", f -> f.deck(CARS_DECK, metres), FerryDecks.BAD, null, SAME);
            call("deck(2, " + metres + ")", f -> f.deck(EMPTY_DECK, metres), FerryDecks.BAD, null, SAME);
        }
    }

    private static void vehicle() {
        Due.sentence("4: a VEHICLE of a KIND: its number");
        call("vehicle(9, 100, 100000)", f -> f.vehicle(9, 100, 100000), 7, null, "vehicles=8");
        call("vehicle(1, 1, 0)", f -> f.vehicle(1, 1, 0), 7, null, "vehicles=8");
        Due.sentence("4: BAD");
        for (int kind : new int[] {0, 10, -1, MIN, MAX}) {
            call("vehicle(" + kind + ", 5, 5)", f -> f.vehicle(kind, 5, 5), FerryDecks.BAD, null, SAME);
        }
        for (int size : new int[] {0, 101, -1, MIN, MAX}) {
            call("vehicle(1, " + size + ", 5)", f -> f.vehicle(1, size, 5), FerryDecks.BAD, null, SAME);
        }
        for (int load : new int[] {-1, 100001, MIN, MAX}) {
            call("vehicle(1, 5, " + load + ")", f -> f.vehicle(1, 5, load), FerryDecks.BAD, null, SAME);
        }
    }

    private static void full() {
        Due.sentence("4: FULL: 70 there are");
        Map<String, Long> before = Look.at(fullFerry(), 0, 1, 68, 69);
        FerryDecks ferry = fullFerry();
        Due.is("the 71st", ferry.vehicle(9, 100, 100000), FerryDecks.FULL);
        Due.is("the 71st once more", ferry.vehicle(1, 1, 0), FerryDecks.FULL);
        Due.is("none has the number 70", ferry.told(70, 0), Due.LEAST);
        same("FULL", Look.at(ferry, 0, 1, 68, 69), before);
    }

    private static FerryDecks fullFerry() {
        FerryDecks ferry = ferry();
        for (int number = ALL.length; number < 70; number++) {
            Due.is("number", ferry.vehicle(7, number, 1000 * number), number);
        }
        return ferry;
    }

    private static void ask() {
        Due.sentence("5: a MEMBER of a VEHICLE is asked: the answer");
        call("ask(HOME, LENGTH)", f -> f.ask(HOME, 0, 9), 18, entries(40, 20, 0), ONE_ACT);
        call("ask(CAR, FEE)", f -> f.ask(CAR, 1, 2), 44, entries(11, 1), ONE_ACT);
        call("ask(CAR, RISK)", f -> f.ask(CAR, 2, 9), 9, entries(2), ONE_ACT);
        call("ask(SHOW, RISK)", f -> f.ask(SHOW, 2, 8), 20, entries(42, 22, 2), ONE_ACT);
        call("ask(VAN, LASH)", f -> f.ask(VAN, 3, 2), 10, entries(23, 3, 3), ONE_ACT, "chains 1=10");
        call("ask(MIXED, LASH)", f -> f.ask(MIXED, 3, 1), 2, entries(93, 83, 83, 73, 3),
                ONE_ACT, "chains 6=2");
        call("ask(GAS, MARK)", f -> f.ask(GAS, 4, 9), 11, entries(84, 4), ONE_ACT);
        call("ask(HOME, PULL)", f -> f.ask(HOME, 5, 9), 32, entries(5, 36, 34, 4), ONE_ACT);
        call("ask(SHOW, HOOK)", f -> f.ask(SHOW, 6, 9), 5, entries(56, 36), ONE_ACT);
        Due.sentence("5: the least long: BAD");
        for (int vehicle : NO_VEHICLES) {
            call("ask(" + vehicle + ", 0, 0)", f -> f.ask(vehicle, 0, 0), Due.LEAST, null, SAME);
            call("ask(" + vehicle + ", 5, 0)", f -> f.ask(vehicle, 5, 0), Due.LEAST, null, SAME);
        }
        for (int member : new int[] {-1, 7, MIN, MAX}) {
            call("ask(CAR, " + member + ")", f -> f.ask(CAR, member, 0), Due.LEAST, null, SAME);
            call("ask(HOME, " + member + ")", f -> f.ask(HOME, member, 0), Due.LEAST, null, SAME);
        }
    }

    private static void askThatEndsWithCast() {
        Due.sentence("5: one more: CAST (5, 6 of one that is not HOOKED)");
        for (int vehicle : new int[] {CAR, VAN, TRUCK}) {
            for (int n : new int[] {0, MIN, MAX}) {
                call("PULL of " + vehicle, f -> f.ask(vehicle, 5, n), Due.LONG_CAST, entries(), ONE_ACT);
                call("HOOK of " + vehicle, f -> f.ask(vehicle, 6, n), Due.LONG_CAST, entries(), ONE_ACT);
            }
        }
    }

    private static void askThatFails() {
        Due.sentence("5: 10 more than the least and the number: it FAILED");
        call("RISK of CAR", f -> f.ask(CAR, 2, 10), Due.failed(1), entries(2), ONE_ACT, ONE_FAILURE);
        call("RISK of VAN", f -> f.ask(VAN, 2, 8), Due.failed(1), entries(22, 2), ONE_ACT, ONE_FAILURE);
        call("RISK of TRUCK", f -> f.ask(TRUCK, 2, 0), Due.failed(2), entries(62), ONE_ACT, ONE_FAILURE);
        call("RISK of GAS", f -> f.ask(GAS, 2, 1), Due.failed(3), entries(82, 62, 2), ONE_ACT, ONE_FAILURE);
        call("LASH of GAS", f -> f.ask(GAS, 3, 1), Due.failed(4), entries(83), ONE_ACT, ONE_FAILURE);
        call("RISK of MIXED", f -> f.ask(MIXED, 2, 1), Due.failed(2),
                entries(92, 82, 62), ONE_ACT, ONE_FAILURE);
        call("FEE of MIXED", f -> f.ask(MIXED, 1, 1), Due.failed(2),
                entries(91, 71, 1, 92, 82, 62), ONE_ACT, ONE_FAILURE);
    }

    private static void boardThatIsBadOrState() {
        Due.sentence("7: BAD: VEHICLE, DECK, d");
        for (int vehicle : NO_VEHICLES) {
            call("board(" + vehicle + ")", f -> f.board(vehicle, 0, 0, 0), FerryDecks.BAD, null, SAME);
        }
        for (int deck : NO_DECKS) {
            call("on deck " + deck, f -> f.board(VAN, deck, 0, 0), FerryDecks.BAD, null, SAME);
            call("on deck " + deck, f -> f.board(CAR, deck, 0, 0), FerryDecks.BAD, null, SAME);
        }
        for (int d : new int[] {-1, 10, MIN, MAX}) {
            call("for " + d, f -> f.board(VAN, SHORT_DECK, 0, d), FerryDecks.BAD, null, SAME);
            call("for " + d, f -> f.board(CAR, SHORT_DECK, 0, d), FerryDecks.BAD, null, SAME);
            call("for " + d, f -> f.board(TRUCK, EMPTY_DECK, 99, d), FerryDecks.BAD, null, SAME);
        }
        Due.sentence("7: STATE: it is not ASHORE");
        for (int deck = 0; deck < 3; deck++) {
            int onto = deck;
            call("the CAR on " + deck, f -> f.board(CAR, onto, 0, 0), FerryDecks.STATE, null, SAME);
            call("the CAR, windy, on " + deck, f -> f.board(CAR, onto, 10, 9), FerryDecks.STATE, null, SAME);
        }
    }

    private static void boardThatFails() {
        Due.sentence("7: -10 less the number by which RISK or FEE FAILED");
        call("VAN", f -> f.board(VAN, SHORT_DECK, 8, 0), -11, entries(22, 2), ONE_ACT, ONE_FAILURE);
        call("TRUCK", f -> f.board(TRUCK, SHORT_DECK, 0, 0), -12, entries(62), ONE_ACT, ONE_FAILURE);
        call("GAS", f -> f.board(GAS, CARS_DECK, 9, 9), -13, entries(82, 62, 2), ONE_ACT, ONE_FAILURE);
        call("GAS", f -> f.board(GAS, CARS_DECK, 11, 9), -11, entries(82, 62, 2), ONE_ACT, ONE_FAILURE);
        call("MIXED", f -> f.board(MIXED, CARS_DECK, 3, 9), -12, entries(92, 82, 62), ONE_ACT, ONE_FAILURE);
        call("VAN, a FAILURE ahead of LACK", f -> f.board(VAN, EMPTY_DECK, MAX - 2, 0),
                -11, entries(22, 2), ONE_ACT, ONE_FAILURE);
    }

    private static void boardThatLacks() {
        Due.sentence("7: LACK: LENGTH is more than is left (FEE is not asked then)");
        call("VAN", f -> f.board(VAN, EMPTY_DECK, 3, 9), FerryDecks.LACK, entries(22, 2, 20, 0),
                ONE_ACT, "risk=5");
        call("SHOW", f -> f.board(SHOW, CARS_DECK, 99, 0), FerryDecks.LACK, entries(42, 22, 2, 40, 20, 0),
                ONE_ACT, "risk=20");
    }

    private static void boardThatComes() {
        Due.sentence("7: RISK, then LENGTH, then FEE: it comes into THE TILL: the METRES that are left");
        call("VAN", f -> f.board(VAN, SHORT_DECK, 7, 9), 7, entries(22, 2, 20, 0, 11, 1), ONE_ACT,
                "risk=9", "till=123", "deck 1=1", "takes 1=13", "left 1=7", "many 1=1");
        call("HOME", f -> f.board(HOME, CARS_DECK, 99, 0), 2,
                entries(42, 22, 2, 40, 20, 0, 31, 11, 1, 40, 20, 0), ONE_ACT, "risk=20",
                "till=96", "deck 2=0", "takes 2=18", "left 0=2", "many 0=2");
    }

    private static void leave() {
        Due.sentence("8: a VEHICLE on a DECK goes ASHORE; its CHAINS are 0: the METRES that are left");
        call("leave(CAR)", f -> f.leave(CAR), 30, null, "chains 0=0", "deck 0=-1", "takes 0=0",
                "left 0=30", "many 0=0");
        Due.sentence("8: BAD; STATE");
        for (int vehicle : NO_VEHICLES) {
            call("leave(" + vehicle + ")", f -> f.leave(vehicle), FerryDecks.BAD, null, SAME);
        }
        for (int vehicle = VAN; vehicle <= MIXED; vehicle++) {
            int ashore = vehicle;
            call("leave(" + vehicle + ")", f -> f.leave(ashore), FerryDecks.STATE, null, SAME);
        }
    }

    private static void pull() {
        Due.sentence("10: a VEHICLE's hook is pulled by n: 1, and what PULL of n answers is told");
        call("pull(HOME, 0)", f -> f.pull(HOME, 0), 1, entries(5, 36, 34, 4), ONE_ACT, "pulled=5");
        call("pull(GAS, -9)", f -> f.pull(GAS, -9), 1, entries(5, 76, 84, 4), ONE_ACT, "pulled=11");
        Due.sentence("10: CAST");
        for (int vehicle : new int[] {CAR, VAN, TRUCK}) {
            call("pull(" + vehicle + ")", f -> f.pull(vehicle, 3), FerryDecks.CAST, entries(), ONE_ACT);
        }
        Due.sentence("10: BAD");
        for (int vehicle : NO_VEHICLES) {
            call("pull(" + vehicle + ")", f -> f.pull(vehicle, 3), FerryDecks.BAD, null, SAME);
        }
    }

    private static void callsThatOnlyTell() {
        Due.sentence("6: entry i of THE TRACE; BAD: there is none");
        call("trace(0)", f -> f.trace(0), 40, null, SAME);
        call("trace(2)", f -> f.trace(2), 0, null, SAME);
        for (int i : new int[] {-1, 3, 399, 400, 401, MIN, MAX}) {
            call("trace(" + i + ")", f -> f.trace(i), FerryDecks.BAD, null, SAME);
        }
        Due.sentence("9, 11, 14: risk, pulled, till");
        call("risk()", f -> f.risk(), 7, null, SAME);
        call("pulled()", f -> f.pulled(), 20, null, SAME);
        call("till()", f -> f.till(), 44, null, SAME);
        Due.sentence("12: the least long: BAD");
        for (int vehicle : NO_VEHICLES) {
            call("told(" + vehicle + ")", f -> f.told(vehicle, 0), Due.LEAST, null, SAME);
        }
        for (int what : new int[] {-1, 6, MIN, MAX}) {
            call("told(CAR, " + what + ")", f -> f.told(CAR, what), Due.LEAST, null, SAME);
        }
        Due.sentence("13: BAD");
        for (int deck : NO_DECKS) {
            call("on(" + deck + ", 0)", f -> f.on(deck, 0), FerryDecks.BAD, null, SAME);
        }
        for (int what : new int[] {-1, 3, MIN, MAX}) {
            call("on(0, " + what + ")", f -> f.on(0, what), FerryDecks.BAD, null, SAME);
        }
        Due.sentence("15: BAD");
        for (int what : new int[] {-1, 4, MIN, MAX}) {
            call("count(" + what + ")", f -> f.count(what), FerryDecks.BAD, null, SAME);
        }
    }
}
