/** Promises 7 (board), 8 (leave), 9 (risk) and 14 (till). */
public final class BoardTest {
    private static final int CAR = 1, VAN = 2, HOME = 4, SHOW = 5, TRUCK = 6, GAS = 8, MIXED = 9;
    private static final int MIN = Integer.MIN_VALUE, MAX = Integer.MAX_VALUE;

    public static void main(String[] args) {
        comes();
        comesOnEachDeck();
        bad();
        state();
        failures();
        lack();
        leaves();
        lengthsAsTheyWere();
        Due.end();
    }

    private static FerryDecks ferry() {
        FerryDecks ferry = new FerryDecks();
        ferry.term(0, 4);
        ferry.term(1, 100);
        ferry.term(2, 10);
        ferry.term(4, 500);
        ferry.deck(0, 60);
        return ferry;
    }

    private static void comes() {
        FerryDecks ferry = ferry();
        ferry.vehicle(SHOW, 10, 0);
        Due.is("a SHOW comes", ferry.board(0, 0, 5, 3), 45);
        Due.trace("a SHOW comes", ferry, 42, 22, 2, 40, 20, 0,
                51, 31, 11, 1, 40, 20, 0, 31, 11, 1, 40, 20, 0);
        Due.is("risk", ferry.risk(), 7);
        Due.is("till", ferry.till(), 145 + 115);
        Due.is("deck of it", ferry.told(0, 4), 0);
        Due.is("metres of it", ferry.told(0, 5), 15);
        Due.is("one on it", ferry.on(0, 2), 1);
        Due.is("an act", ferry.count(2), 1);
        ferry.vehicle(MIXED, 10, 500);
        Due.is("a MIXED comes", ferry.board(1, 0, 3, 0), 34);
        Due.trace("a MIXED comes", ferry, 92, 82, 62, 2, 90, 60, 0, 91, 71, 1, 92, 82, 62, 2);
        Due.is("risk that was taken", ferry.risk(), 50);
        Due.is("till of two", ferry.till(), 260 + 200);
        ferry.vehicle(CAR, 1, 0);
        Due.is("least wind", ferry.board(2, 0, MIN, 9), 33);
        Due.is("least risk", ferry.risk(), MIN);
        Due.is("till of nine days", ferry.till(), 460 + 190);
    }

    private static void comesOnEachDeck() {
        FerryDecks ferry = new FerryDecks();
        for (int d = 0; d < 3; d++) {
            ferry.deck(d, 10 + d);
            ferry.vehicle(CAR, 5, 0);
            Due.is("comes on " + d, ferry.board(d, d, 0, 0), 5 + d);
            Due.is("is on " + d, ferry.told(d, 4), d);
        }
    }

    private static void bad() {
        FerryDecks ferry = ferry();
        ferry.vehicle(CAR, 10, 0);
        ferry.vehicle(CAR, 10, 0);
        ferry.board(0, 0, 3, 1);
        int[] vehicles = {-1, 2, MIN, MAX};
        for (int vehicle : vehicles) {
            Due.is("no vehicle " + vehicle, ferry.board(vehicle, 0, 1, 1), FerryDecks.BAD);
            Due.is("none leaves " + vehicle, ferry.leave(vehicle), FerryDecks.BAD);
        }
        int[] decks = {-1, 3, MIN, MAX};
        for (int deck : decks) {
            Due.is("no deck " + deck, ferry.board(1, deck, 1, 1), FerryDecks.BAD);
            Due.is("BAD ahead of STATE", ferry.board(0, deck, 1, 1), FerryDecks.BAD);
        }
        int[] days = {-1, 10, MIN, MAX};
        for (int d : days) {
            Due.is("no days " + d, ferry.board(1, 0, 1, d), FerryDecks.BAD);
            Due.is("BAD ahead of STATE", ferry.board(0, 0, 1, d), FerryDecks.BAD);
            Due.is("BAD ahead of a failure", ferry.board(1, 0, 99, d), FerryDecks.BAD);
        }
        Due.trace("BAD ones leave the trace", ferry, 2, 0, 11, 1);
        Due.is("acts", ferry.count(2), 1);
        Due.is("risk", ferry.risk(), 3);
        Due.is("till", ferry.till(), 110);
    }

    private static void state() {
        FerryDecks ferry = ferry();
        ferry.deck(1, 60);
        ferry.vehicle(CAR, 10, 0);
        Due.is("ashore none leaves", ferry.leave(0), FerryDecks.STATE);
        ferry.board(0, 0, 3, 1);
        Due.is("on this deck", ferry.board(0, 0, 4, 1), FerryDecks.STATE);
        Due.is("on another deck", ferry.board(0, 1, 99, 1), FerryDecks.STATE);
        Due.trace("STATE leaves the trace", ferry, 2, 0, 11, 1);
        Due.is("acts", ferry.count(2), 1);
        Due.is("failures", ferry.count(3), 0);
        Due.is("risk", ferry.risk(), 3);
        Due.is("none on the other", ferry.on(1, 2), 0);
    }

    private static void failures() {
        FerryDecks ferry = ferry();
        ferry.vehicle(VAN, 10, 0);
        ferry.vehicle(TRUCK, 10, 501);
        ferry.vehicle(GAS, 10, 500);
        ferry.vehicle(HOME, 10, 0);
        ferry.ask(0, 3, 4);
        ferry.ask(3, 2, 1);
        Due.is("ask() leaves the risk", ferry.risk(), 0);
        ferry.board(3, 0, 1, 0);
        Due.is("risk", ferry.risk(), 3);
        Due.is("windy", ferry.board(0, 0, 8, 1), -11);
        Due.trace("windy", ferry, 22, 2);
        Due.is("heavy", ferry.board(1, 0, 8, 1), -12);
        Due.trace("heavy", ferry, 62);
        Due.is("odd", ferry.board(2, 0, 7, 1), -13);
        Due.trace("odd", ferry, 82, 62, 2);
        Due.is("a failure ahead of LACK", ferry.board(0, 2, 8, 1), -11);
        Due.is("risk stays", ferry.risk(), 3);
        Due.is("till stays", ferry.till(), 115);
        Due.is("metres stay", ferry.on(0, 1), 45);
        Due.is("still ashore", ferry.told(0, 4), -1);
        Due.is("chains stay", ferry.told(0, 3), 5);
        Due.is("acts", ferry.count(2), 7);
        Due.is("failures", ferry.count(3), 4);
        Due.is("comes then", ferry.board(2, 0, 8, 1), 33);
        Due.is("a HOME in any wind", ferry.leave(3), 48);
        Due.is("a HOME in any wind", ferry.board(3, 0, MAX - 2, 1), 33);
        Due.is("risk taken", ferry.risk(), 20);
    }

    private static void lack() {
        FerryDecks ferry = ferry();
        ferry.vehicle(CAR, 61, 0);
        ferry.vehicle(CAR, 60, 0);
        ferry.vehicle(CAR, 1, 0);
        ferry.ask(0, 3, 4);
        Due.is("too long by one", ferry.board(0, 0, 6, 2), FerryDecks.LACK);
        Due.trace("FEE is not asked", ferry, 2, 0);
        Due.is("risk is the latest", ferry.risk(), 6);
        Due.is("till stays", ferry.till(), 0);
        Due.is("still ashore", ferry.told(0, 4), -1);
        Due.is("takes none", ferry.told(0, 5), 0);
        Due.is("chains stay", ferry.told(0, 3), 4);
        Due.is("none on it", ferry.on(0, 2), 0);
        Due.is("acts", ferry.count(2), 2);
        Due.is("LACK is no failure", ferry.count(3), 0);
        Due.is("just fits", ferry.board(1, 0, 2, 2), 0);
        Due.is("no more fits", ferry.board(2, 0, 1, 2), FerryDecks.LACK);
        Due.is("till of one", ferry.till(), 120);
        Due.is("risk of the latest", ferry.risk(), 1);
        Due.is("room again", ferry.leave(1), 60);
        Due.is("fits then", ferry.board(2, 0, 1, 2), 59);
    }

    private static void leaves() {
        FerryDecks ferry = ferry();
        ferry.vehicle(CAR, 10, 0);
        ferry.vehicle(CAR, 20, 0);
        ferry.board(0, 0, 3, 0);
        ferry.board(1, 0, 4, 0);
        ferry.ask(0, 3, 7);
        ferry.ask(1, 3, 8);
        Due.is("leaves", ferry.leave(0), 40);
        Due.is("its chains", ferry.told(0, 3), 0);
        Due.is("the other's chains", ferry.told(1, 3), 8);
        Due.is("its deck", ferry.told(0, 4), -1);
        Due.is("its metres", ferry.told(0, 5), 0);
        Due.is("leaves once", ferry.leave(0), FerryDecks.STATE);
        Due.is("metres left", ferry.on(0, 1), 40);
        Due.is("one on it", ferry.on(0, 2), 1);
        Due.is("till stays", ferry.till(), 200);
        Due.is("risk stays", ferry.risk(), 4);
        Due.is("no acts", ferry.count(2), 4);
        Due.trace("leave() leaves the trace", ferry, 3);
        Due.is("comes once more", ferry.board(0, 0, 3, 0), 30);
        Due.is("pays once more", ferry.till(), 300);
    }

    private static void lengthsAsTheyWere() {
        FerryDecks ferry = ferry();
        ferry.vehicle(HOME, 10, 0);
        Due.is("comes", ferry.board(0, 0, 0, 0), 45);
        ferry.term(0, 20);
        Due.is("is longer now", ferry.ask(0, 0, 0), 31);
        Due.is("takes as much as then", ferry.told(0, 5), 15);
        Due.is("left as then", ferry.on(0, 1), 45);
        Due.is("just enough", ferry.deck(0, 15), 60);
        Due.is("leaves as much", ferry.leave(0), 15);
        Due.is("does not fit now", ferry.board(0, 0, 0, 0), FerryDecks.LACK);
    }
}
