/** Promises 10 (pull), 11 (pulled) and 15 (count). */
public final class PullTest {
    public static void main(String[] args) {
        pulls();
        castAndBad();
        counts();
        Due.end();
    }

    /** Vehicle k - 1 is of kind k, of size 17 and load 4321. */
    private static FerryDecks ferry() {
        FerryDecks ferry = new FerryDecks();
        ferry.term(6, 11);
        for (int kind = 1; kind <= 9; kind++) {
            ferry.vehicle(kind, 17, 4321);
        }
        return ferry;
    }

    private static void pulls() {
        FerryDecks ferry = ferry();
        pull(ferry, 2, 4, 21, 5, 36, 34, 4);
        pull(ferry, 3, -4, -3, 5, 36, 34, 4);
        pull(ferry, 4, 4, 88, 55, 5, 56, 36, 54, 34, 4);
        pull(ferry, 6, 4, 23, 5, 76, 4);
        pull(ferry, 7, 4, 28, 5, 76, 84, 4);
        pull(ferry, 8, 4, 44, 5, 96, 76, 76, 84, 4);
        pull(ferry, 8, Integer.MAX_VALUE, 8 * Integer.MAX_VALUE + 12, 5, 96, 76, 76, 84, 4);
        Due.is("ask(PULL)", ferry.ask(2, 5, 4), 21);
        Due.is("ask() leaves pulled()", ferry.pulled(), 8 * Integer.MAX_VALUE + 12);
    }

    private static void pull(FerryDecks ferry, int vehicle, int n, int want, int... trace) {
        String call = "pull(" + vehicle + ", " + n + ")";
        Due.is(call, ferry.pull(vehicle, n), 1);
        Due.is(call + ", pulled()", ferry.pulled(), want);
        Due.trace(call, ferry, trace);
    }

    private static void castAndBad() {
        FerryDecks ferry = ferry();
        int[] unhooked = {0, 1, 5};
        for (int vehicle : unhooked) {
            Due.is("before any", ferry.pull(vehicle, 4), FerryDecks.CAST);
            Due.is("pulled() before any", ferry.pulled(), 0);
        }
        ferry.pull(2, 4);
        int[] none = {-1, 9, Integer.MIN_VALUE, Integer.MAX_VALUE};
        for (int vehicle : none) {
            Due.is("no vehicle " + vehicle, ferry.pull(vehicle, 4), FerryDecks.BAD);
        }
        Due.trace("BAD leaves the trace", ferry, 5, 36, 34, 4);
        Due.is("pulled() behind BAD", ferry.pulled(), 21);
        Due.is("CAST ones are acts, BAD ones are not", ferry.count(2), 4);
        for (int vehicle : unhooked) {
            ferry.pull(2, 4);
            Due.is("not HOOKED", ferry.pull(vehicle, 9), FerryDecks.CAST);
            Due.trace("not HOOKED", ferry);
            Due.is("pulled() behind CAST", ferry.pulled(), 21);
        }
        Due.is("acts", ferry.count(2), 10);
        Due.is("CAST ones are no failures", ferry.count(3), 0);
    }

    private static void counts() {
        FerryDecks ferry = ferry();
        ferry.deck(0, 30);
        ferry.ask(0, 2, 10);
        ferry.board(0, 0, 10, 0);
        ferry.ask(5, 2, 0);
        ferry.ask(3, 2, 10);
        ferry.board(0, 1, 1, 0);
        ferry.board(0, 0, 1, 0);
        ferry.board(0, 0, 1, 0);
        ferry.pull(0, 1);
        ferry.pull(4, 1);
        Due.is("vehicles", ferry.count(0), 9);
        Due.is("entries", ferry.count(1), 7);
        Due.is("acts", ferry.count(2), 8);
        Due.is("failures", ferry.count(3), 3);
        int[] none = {-1, 4, Integer.MIN_VALUE, Integer.MAX_VALUE};
        for (int what : none) {
            Due.is("count(" + what + ")", ferry.count(what), FerryDecks.BAD);
        }
        ferry.vehicle(1, 1, 1);
        Due.is("vehicles then", ferry.count(0), 10);
        ferry.ask(0, 5, 0);
        Due.is("entries behind CAST", ferry.count(1), 0);
    }
}
