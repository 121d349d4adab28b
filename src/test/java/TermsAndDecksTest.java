/** Promises 1 (a new object), 2 (term), 3 (deck) and 13 (on). */
public final class TermsAndDecksTest {
    private static final int CAR = 1;

    public static void main(String[] args) {
        newObject();
        objectsAreApart();
        terms();
        decks();
        decksWithVehicles();
        Due.end();
    }

    private static void newObject() {
        FerryDecks ferry = new FerryDecks();
        for (int what = 0; what < 4; what++) {
            Due.is("new count(" + what + ")", ferry.count(what), 0);
        }
        for (int d = 0; d < 3; d++) {
            for (int what = 0; what < 3; what++) {
                Due.is("new on(" + d + ", " + what + ")", ferry.on(d, what), 0);
            }
        }
        for (int k = 0; k < 8; k++) {
            Due.is("new term " + k, ferry.term(k, 0), 0);
        }
        Due.is("new risk()", ferry.risk(), 0);
        Due.is("new pulled()", ferry.pulled(), 0);
        Due.is("new till()", ferry.till(), 0);
        Due.is("new told(0, 0)", ferry.told(0, 0), Due.LEAST);
        Due.trace("new", ferry);
        Due.is("board() of none", ferry.board(0, 0, 0, 0), FerryDecks.BAD);
        Due.is("leave() of none", ferry.leave(0), FerryDecks.BAD);
        Due.is("pull() of none", ferry.pull(0, 0), FerryDecks.BAD);
        Due.is("ask() of none", ferry.ask(0, 0, 0), Due.LEAST);
        ferry.vehicle(CAR, 1, 0);
        Due.is("a deck without metres", ferry.board(0, 0, 0, 0), FerryDecks.LACK);
    }

    private static void objectsAreApart() {
        FerryDecks one = new FerryDecks();
        FerryDecks other = new FerryDecks();
        one.term(1, 7);
        one.deck(1, 70);
        one.vehicle(CAR, 3, 0);
        one.board(0, 1, 4, 0);
        Due.is("term of the other", other.term(1, 0), 0);
        Due.is("deck of the other", other.deck(1, 0), 0);
        Due.is("vehicles of the other", other.count(0), 0);
        Due.is("till of the other", other.till(), 0);
        Due.is("risk of the other", other.risk(), 0);
    }

    private static void terms() {
        FerryDecks ferry = new FerryDecks();
        for (int k = 0; k < 8; k++) {
            Due.is("first term " + k, ferry.term(k, 100 + k), 0);
        }
        for (int k = 0; k < 8; k++) {
            Due.is("then term " + k, ferry.term(k, 1000), 100 + k);
            Due.is("too large " + k, ferry.term(k, 1001), FerryDecks.BAD);
            Due.is("too small " + k, ferry.term(k, -1), FerryDecks.BAD);
            Due.is("least v " + k, ferry.term(k, Integer.MIN_VALUE), FerryDecks.BAD);
            Due.is("most v " + k, ferry.term(k, Integer.MAX_VALUE), FerryDecks.BAD);
            Due.is("BAD left term " + k, ferry.term(k, 0), 1000);
            Due.is("zero was taken " + k, ferry.term(k, 5), 0);
        }
        int[] none = {-1, 8, Integer.MIN_VALUE, Integer.MAX_VALUE};
        for (int k : none) {
            Due.is("no term " + k, ferry.term(k, 1), FerryDecks.BAD);
        }
        Due.is("terms are no acts", ferry.count(2), 0);
    }

    private static void decks() {
        FerryDecks ferry = new FerryDecks();
        for (int d = 0; d < 3; d++) {
            Due.is("first deck " + d, ferry.deck(d, 10000), 0);
            Due.is("too many metres", ferry.deck(d, 10001), FerryDecks.BAD);
            Due.is("metres below 0", ferry.deck(d, -1), FerryDecks.BAD);
            Due.is("least metres", ferry.deck(d, Integer.MIN_VALUE), FerryDecks.BAD);
            Due.is("BAD left deck " + d, ferry.deck(d, 50 + d), 10000);
        }
        for (int d = 0; d < 3; d++) {
            Due.is("metres of " + d, ferry.on(d, 0), 50 + d);
            Due.is("left of " + d, ferry.on(d, 1), 50 + d);
            Due.is("none on " + d, ferry.on(d, 2), 0);
            Due.is("what = -1", ferry.on(d, -1), FerryDecks.BAD);
            Due.is("what = 3", ferry.on(d, 3), FerryDecks.BAD);
        }
        int[] none = {-1, 3, Integer.MIN_VALUE, Integer.MAX_VALUE};
        for (int d : none) {
            Due.is("no deck " + d, ferry.deck(d, 1), FerryDecks.BAD);
            Due.is("on no deck " + d, ferry.on(d, 0), FerryDecks.BAD);
        }
        Due.is("back to 0", ferry.deck(0, 0), 50);
        Due.is("decks are no acts", ferry.count(2), 0);
    }

    private static void decksWithVehicles() {
        FerryDecks ferry = new FerryDecks();
        ferry.deck(2, 100);
        ferry.vehicle(CAR, 30, 0);
        ferry.vehicle(CAR, 12, 0);
        Due.is("first comes", ferry.board(0, 2, 0, 0), 70);
        Due.is("second comes", ferry.board(1, 2, 0, 0), 58);
        Due.is("one metre lacks", ferry.deck(2, 41), FerryDecks.LACK);
        Due.is("no metres lack", ferry.deck(2, 0), FerryDecks.LACK);
        Due.is("BAD ahead of LACK", ferry.deck(2, -1), FerryDecks.BAD);
        Due.is("LACK left the metres", ferry.on(2, 0), 100);
        Due.is("just enough", ferry.deck(2, 42), 100);
        Due.is("metres", ferry.on(2, 0), 42);
        Due.is("none left", ferry.on(2, 1), 0);
        Due.is("two on it", ferry.on(2, 2), 2);
        Due.is("none on the next", ferry.on(1, 2), 0);
        Due.is("more again", ferry.deck(2, 60), 42);
        Due.is("left again", ferry.on(2, 1), 18);
        ferry.leave(0);
        Due.is("one on it", ferry.on(2, 2), 1);
        Due.is("left behind one", ferry.on(2, 1), 48);
        Due.is("just enough for one", ferry.deck(2, 12), 60);
    }
}
