/** Promises 5 (ask) and 6 (trace): each member of each kind, with the bodies that began. */
public final class AskTest {
    private static final int LENGTH = 0, FEE = 1, RISK = 2, LASH = 3, MARK = 4, PULL = 5, HOOK = 6;
    private static final int CAR = 1, VAN = 2, CAMPER = 3, HOME = 4, SHOW = 5;
    private static final int TRUCK = 6, TANKER = 7, GAS = 8, MIXED = 9;
    private static final int MIN = Integer.MIN_VALUE, MAX = Integer.MAX_VALUE;

    public static void main(String[] args) {
        lengths();
        fees();
        feesThatWrapOrFail();
        risks();
        heavyRisks();
        lashes();
        lashesThatFail();
        marks();
        pulls();
        hooks();
        casts();
        bad();
        traceStays();
        Due.end();
    }

    /** Vehicle k - 1 is of kind k, of size 17 and load 4321, with all terms told apart. */
    private static FerryDecks ferry() {
        FerryDecks ferry = new FerryDecks();
        int[] terms = {7, 50, 9, 60, 5, 4, 11, 999};
        for (int k = 0; k < terms.length; k++) {
            ferry.term(k, terms[k]);
        }
        for (int kind = CAR; kind <= MIXED; kind++) {
            ferry.vehicle(kind, 17, 4321);
        }
        return ferry;
    }

    private static FerryDecks ferryOf(int kind, int size, int load) {
        FerryDecks ferry = new FerryDecks();
        ferry.vehicle(kind, size, load);
        return ferry;
    }

    private static void asked(FerryDecks ferry, int kind, int member, int n, long want, int... trace) {
        String call = "member " + member + " of " + n + " of kind " + kind;
        Due.is(call, ferry.ask(kind - 1, member, n), want);
        Due.trace(call, ferry, trace);
    }

    private static void lengths() {
        FerryDecks ferry = ferry();
        asked(ferry, CAR, LENGTH, 3, 17, 0);
        asked(ferry, VAN, LENGTH, 3, 18, 20, 0);
        asked(ferry, CAMPER, LENGTH, 3, 18, 20, 0);
        asked(ferry, HOME, LENGTH, 3, 25, 40, 20, 0);
        asked(ferry, SHOW, LENGTH, 3, 25, 40, 20, 0);
        asked(ferry, TRUCK, LENGTH, 3, 19, 60, 0);
        asked(ferry, TANKER, LENGTH, 3, 19, 60, 0);
        asked(ferry, GAS, LENGTH, 3, 19, 60, 0);
        asked(ferry, MIXED, LENGTH, MIN, 18, 90, 60, 0);
        ferry.term(0, 1000);
        asked(ferry, HOME, LENGTH, MAX, 1018, 40, 20, 0);
        Due.is("the least MIXED", ferryOf(MIXED, 1, 0).ask(0, LENGTH, 0), 2);
    }

    private static void fees() {
        FerryDecks ferry = ferry();
        ferry.term(4, 1000);
        asked(ferry, CAR, FEE, 3, 17, 11, 1);
        asked(ferry, CAR, FEE, 1, 0, 11, 1);
        asked(ferry, VAN, FEE, 2, 8, 11, 1);
        asked(ferry, CAMPER, FEE, 3, 35, 31, 11, 1, 20, 0);
        asked(ferry, HOME, FEE, 3, 42, 31, 11, 1, 40, 20, 0);
        asked(ferry, SHOW, FEE, 3, 42 + 25, 51, 31, 11, 1, 40, 20, 0, 31, 11, 1, 40, 20, 0);
        asked(ferry, TRUCK, FEE, 3, 77, 1);
        asked(ferry, TANKER, FEE, 3, 154, 71, 1);
        asked(ferry, GAS, FEE, 3, 154, 71, 1);
        ferry.term(3, 0);
        asked(ferry, CAR, FEE, 3, 77, 11, 1);
        asked(ferry, SHOW, FEE, 3, 102 + 75, 51, 31, 11, 1, 40, 20, 0, 31, 11, 1, 40, 20, 0);
    }

    private static void feesThatWrapOrFail() {
        FerryDecks ferry = ferry();
        asked(ferry, CAR, FEE, -100, 0, 11, 1);
        asked(ferry, TRUCK, FEE, -100, -850, 1);
        asked(ferry, TANKER, FEE, -100, -1700, 71, 1);
        asked(ferry, TRUCK, FEE, MAX, 50 + MAX * 9, 1);
        asked(ferry, TANKER, FEE, MAX / 9, (50 + (MAX / 9) * 9) * 2, 71, 1);
        asked(ferry, CAR, FEE, MIN, MAX - 9, 11, 1);
        asked(ferry, MIXED, FEE, 3, Due.failed(2), 91, 71, 1, 92, 82, 62);
        FerryDecks light = ferryOf(MIXED, 5, 10);
        light.term(1, 30);
        light.term(2, 2);
        light.term(4, 10);
        Due.is("FEE of a light MIXED", light.ask(0, FEE, 4), 76);
        Due.trace("FEE of a light MIXED", light, 91, 71, 1, 92, 82, 62, 2);
        light.term(4, 9);
        Due.is("FEE of a heavy MIXED", light.ask(0, FEE, 4), Due.failed(2));
    }

    private static void risks() {
        FerryDecks ferry = ferry();
        asked(ferry, CAR, RISK, 9, 9, 2);
        asked(ferry, CAR, RISK, 10, Due.failed(1), 2);
        asked(ferry, CAR, RISK, MIN, MIN, 2);
        asked(ferry, CAR, RISK, MAX, Due.failed(1), 2);
        asked(ferry, VAN, RISK, 7, 9, 22, 2);
        asked(ferry, VAN, RISK, 8, Due.failed(1), 22, 2);
        asked(ferry, VAN, RISK, MAX, MIN + 1, 22, 2);
        asked(ferry, CAMPER, RISK, 8, Due.failed(1), 22, 2);
        asked(ferry, HOME, RISK, 7, 9, 42, 22, 2);
        asked(ferry, HOME, RISK, 8, 20, 42, 22, 2);
        asked(ferry, SHOW, RISK, 100, 20, 42, 22, 2);
        asked(ferry, SHOW, RISK, -3, -1, 42, 22, 2);
        Due.is("a failure that was taken is none", ferry.count(3), 4);
    }

    private static void heavyRisks() {
        FerryDecks ferry = ferry();
        for (int kind = TRUCK; kind <= TANKER; kind++) {
            asked(ferry, kind, RISK, 2, Due.failed(2), 62);
        }
        asked(ferry, GAS, RISK, 2, Due.failed(2), 82, 62);
        asked(ferry, MIXED, RISK, 3, Due.failed(2), 92, 82, 62);
        light(TRUCK, 9, 9, 62, 2);
        light(TRUCK, 10, Due.failed(1), 62, 2);
        light(TANKER, 3, 3, 62, 2);
        light(GAS, 4, 4, 82, 62, 2);
        light(GAS, 3, Due.failed(3), 82, 62, 2);
        light(GAS, -3, Due.failed(3), 82, 62, 2);
        light(GAS, -4, -4, 82, 62, 2);
        light(GAS, 11, Due.failed(1), 82, 62, 2);
        light(MIXED, 3, 50, 92, 82, 62, 2);
        light(MIXED, -1, 50, 92, 82, 62, 2);
        light(MIXED, 8, 8, 92, 82, 62, 2);
        light(MIXED, 11, Due.failed(1), 92, 82, 62, 2);
        FerryDecks edge = ferryOf(TRUCK, 1, 1000);
        edge.term(4, 1000);
        Due.is("a load of T4", edge.ask(0, RISK, 5), 5);
        edge.term(4, 999);
        Due.is("a load above T4", edge.ask(0, RISK, 5), Due.failed(2));
        Due.is("a heavy CAR", ferryOf(CAR, 1, 100000).ask(0, RISK, 5), 5);
    }

    private static void light(int kind, int w, long want, int... trace) {
        FerryDecks ferry = ferryOf(kind, 5, 0);
        String call = "RISK of " + w + " of a light " + kind;
        Due.is(call, ferry.ask(0, RISK, w), want);
        Due.trace(call, ferry, trace);
    }

    private static void lashes() {
        FerryDecks ferry = ferry();
        asked(ferry, CAR, LASH, 5, 5, 3);
        asked(ferry, CAR, LASH, -9, -4, 3);
        asked(ferry, VAN, LASH, 5, 6, 23, 3, 3);
        asked(ferry, CAMPER, LASH, 5, 6, 23, 3, 3);
        asked(ferry, HOME, LASH, 5, 3, 43, 23, 3, 3);
        asked(ferry, SHOW, LASH, -5, -1, 43, 23, 3, 3);
        asked(ferry, TRUCK, LASH, 5, 5, 3);
        asked(ferry, TANKER, LASH, 5, 10, 73, 3);
        asked(ferry, CAR, LASH, MAX, MAX - 4, 3);
        asked(ferry, CAR, LASH, 5, MIN, 3);
        asked(ferry, HOME, LASH, MIN, 3 + MIN / 2 + 1, 43, 23, 3, 3);
        asked(ferry, TRUCK, LASH, 1, 6, 3);
        asked(ferry, TANKER, LASH, MAX, 8, 73, 3);
        Due.is("CHAINS of the TRUCK", ferry.told(TRUCK - 1, 3), 6);
        Due.is("CHAINS of the TANKER", ferry.told(TANKER - 1, 3), 8);
    }

    private static void lashesThatFail() {
        FerryDecks ferry = ferry();
        asked(ferry, GAS, LASH, 2, 4, 83, 73, 3);
        asked(ferry, GAS, LASH, 3, 10, 83, 73, 3);
        asked(ferry, GAS, LASH, 3, Due.failed(4), 83);
        Due.is("CHAINS stay", ferry.told(GAS - 1, 3), 10);
        ferry.term(5, 10);
        asked(ferry, GAS, LASH, -6, -2, 83, 73, 3);
        ferry.term(5, 4);
        asked(ferry, MIXED, LASH, 2, 4, 93, 83, 73, 3);
        asked(ferry, MIXED, LASH, 3, 10, 93, 83, 73, 3);
        asked(ferry, MIXED, LASH, 3, 6, 93, 83, 83, 73, 3);
        Due.is("CHAINS from 0 on", ferry.told(MIXED - 1, 3), 6);
        Due.is("one failed", ferry.count(3), 1);
    }

    private static void marks() {
        FerryDecks ferry = ferry();
        asked(ferry, CAR, MARK, 3, 7, 4);
        asked(ferry, VAN, MARK, 3, 7, 4);
        asked(ferry, CAMPER, MARK, 3, 9, 34, 4);
        asked(ferry, HOME, MARK, 3, 9, 34, 4);
        asked(ferry, SHOW, MARK, 3, 18, 54, 34, 4);
        asked(ferry, TRUCK, MARK, 3, 7, 4);
        asked(ferry, TANKER, MARK, 3, 7, 4);
        asked(ferry, GAS, MARK, 3, 12, 84, 4);
        asked(ferry, MIXED, MARK, MIN, 12, 84, 4);
    }

    private static void pulls() {
        FerryDecks ferry = ferry();
        asked(ferry, CAMPER, PULL, 4, 21, 5, 36, 34, 4);
        asked(ferry, HOME, PULL, 4, 21, 5, 36, 34, 4);
        asked(ferry, SHOW, PULL, 4, 14 * 5 + 18, 55, 5, 56, 36, 54, 34, 4);
        asked(ferry, TANKER, PULL, 4, 23, 5, 76, 4);
        asked(ferry, GAS, PULL, 4, 28, 5, 76, 84, 4);
        asked(ferry, MIXED, PULL, 4, 44, 5, 96, 76, 76, 84, 4);
        asked(ferry, CAMPER, PULL, MAX, 3 * MAX + 9, 5, 36, 34, 4);
        asked(ferry, SHOW, PULL, MAX, 14 * MIN + 18, 55, 5, 56, 36, 54, 34, 4);
        asked(ferry, TANKER, PULL, -4, -9, 5, 76, 4);
    }

    private static void hooks() {
        FerryDecks ferry = ferry();
        asked(ferry, CAMPER, HOOK, 4, 3, 36);
        asked(ferry, HOME, HOOK, 4, 3, 36);
        asked(ferry, SHOW, HOOK, 4, 14, 56, 36);
        asked(ferry, TANKER, HOOK, 4, 4, 76);
        asked(ferry, GAS, HOOK, 4, 4, 76);
        asked(ferry, MIXED, HOOK, MIN, 8, 96, 76, 76);
        Due.is("HOOK of the heaviest", ferryOf(TANKER, 1, 100000).ask(0, HOOK, 0), 100);
        Due.is("HOOK of 999", ferryOf(TANKER, 1, 999).ask(0, HOOK, 0), 0);
    }

    private static void casts() {
        FerryDecks ferry = ferry();
        int[] unhooked = {CAR, VAN, TRUCK};
        int acts = 0;
        for (int kind : unhooked) {
            asked(ferry, kind, MARK, 0, 7, 4);
            asked(ferry, kind, PULL, 4, Due.LONG_CAST);
            asked(ferry, kind, MARK, 0, 7, 4);
            asked(ferry, kind, HOOK, 4, Due.LONG_CAST);
            acts += 4;
        }
        Due.is("CAST ones are acts", ferry.count(2), acts);
        Due.is("CAST ones are no failures", ferry.count(3), 0);
    }

    private static void bad() {
        FerryDecks ferry = ferry();
        ferry.ask(HOME - 1, LENGTH, 0);
        int[] vehicles = {-1, 9, MIN, MAX};
        for (int vehicle : vehicles) {
            Due.is("no vehicle " + vehicle, ferry.ask(vehicle, LENGTH, 0), Due.LEAST);
        }
        int[] members = {-1, 7, MIN, MAX};
        for (int member : members) {
            Due.is("no member " + member, ferry.ask(0, member, 0), Due.LEAST);
        }
        Due.trace("BAD ones leave the trace", ferry, 40, 20, 0);
        Due.is("BAD ones are no acts", ferry.count(2), 1);
    }

    private static void traceStays() {
        FerryDecks ferry = ferry();
        ferry.deck(0, 100);
        ferry.ask(HOME - 1, LENGTH, 0);
        ferry.term(0, 1);
        ferry.deck(0, 90);
        ferry.vehicle(CAR, 1, 1);
        ferry.told(0, 0);
        ferry.on(0, 0);
        ferry.leave(0);
        Due.trace("calls that are no acts", ferry, 40, 20, 0);
        Due.is("trace of the least", ferry.trace(MIN), FerryDecks.BAD);
        Due.is("trace of the most", ferry.trace(MAX), FerryDecks.BAD);
        Due.is("trace(400)", ferry.trace(400), FerryDecks.BAD);
        ferry.ask(CAR - 1, LENGTH, 0);
        Due.trace("a shorter one", ferry, 0);
    }
}
