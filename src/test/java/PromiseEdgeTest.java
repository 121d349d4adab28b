/** Promises 1 to 15 of the document: each sentence with an edge has a method of its own. */
public final class PromiseEdgeTest {
    private static final int LENGTH = 0, FEE = 1, RISK = 2, LASH = 3, MARK = 4, PULL = 5, HOOK = 6;
    private static final int CAR = 1, VAN = 2, CAMPER = 3, HOME = 4, SHOW = 5;
    private static final int TRUCK = 6, TANKER = 7, GAS = 8, MIXED = 9;
    private static final int MIN = Integer.MIN_VALUE, MAX = Integer.MAX_VALUE;

    public static void main(String[] args) {
        newHasNoVehicles();
        newDecksHaveNoMetres();
        termTellsWhatItWas();
        termIsBad();
        deckTellsWhatItHad();
        deckFrom0To10000();
        deckIsBad();
        deckLacks();
        vehicleOfKinds1To9();
        vehicleNumbersFrom0();
        vehicleIsBad();
        vehicleIsFull();
        askMembers0To6();
        askOfNoMatter();
        askIsBad();
        askIsCast();
        askFailed();
        askFailedLeavesWhatWasDone();
        traceFromTheFirst();
        traceIsBad();
        boardOfDays0To9();
        boardAsksRiskLengthFee();
        boardFillsTheTill();
        boardTellsMetresLeft();
        boardIsBad();
        boardIsState();
        boardFailed();
        boardFailsWhereRiskDoes();
        boardLacks();
        boardBeginsAnywhereAshore();
        leaveTellsMetresLeft();
        leaveTakesChains();
        leaveIsBadOrState();
        riskIs0Before();
        riskIsTheLatest();
        pullAnswers1();
        pullIsCast();
        pullIsBad();
        pulledIs0Before();
        pulledIsTheLatestThatAnswered1();
        toldWhat();
        toldIsBad();
        onWhat();
        onIsBad();
        tillIsALong();
        countVehicles();
        countEntries();
        countActs();
        countFailures();
        countIsBad();
        Due.end();
    }

    private static FerryDecks ferryOf(int... kinds) {
        FerryDecks ferry = new FerryDecks();
        for (int kind : kinds) {
            ferry.vehicle(kind, 10, 0);
        }
        return ferry;
    }

    private static FerryDecks onDeck(int metres, int... kinds) {
        FerryDecks ferry = ferryOf(kinds);
        ferry.deck(0, metres);
        return ferry;
    }

    private static void newHasNoVehicles() {
        Due.sentence("1: No VEHICLES");
        FerryDecks ferry = new FerryDecks();
        Due.is("count(0)", ferry.count(0), 0);
        Due.is("told(0, 0)", ferry.told(0, 0), Due.LEAST);
        Due.is("ask(0, 0, 0)", ferry.ask(0, 0, 0), Due.LEAST);
        Due.is("ask(0, 5, 0)", ferry.ask(0, 5, 0), Due.LEAST);
        Due.is("pull(0, 0)", ferry.pull(0, 0), FerryDecks.BAD);
        Due.is("board(0, 0, 0, 0)", ferry.board(0, 0, 0, 0), FerryDecks.BAD);
        Due.is("leave(0)", ferry.leave(0), FerryDecks.BAD);
        Due.is("acts", ferry.count(2), 0);
        Due.is("failures", ferry.count(3), 0);
        Due.trace("a new object", ferry);
    }

    private static void newDecksHaveNoMetres() {
        Due.sentence("1: DECKS without METRES");
        FerryDecks ferry = new FerryDecks();
        for (int d = 0; d < 3; d++) {
            for (int what = 0; what < 3; what++) {
                Due.is("on(" + d + ", " + what + ")", ferry.on(d, what), 0);
            }
            Due.is("deck(" + d + ", 0)", ferry.deck(d, 0), 0);
        }
    }

    private static void termTellsWhatItWas() {
        Due.sentence("2: TERM k becomes v: what it was");
        FerryDecks ferry = new FerryDecks();
        for (int k = 0; k <= 7; k++) {
            Due.is("first", ferry.term(k, 1000 - k), 0);
        }
        for (int k = 0; k <= 7; k++) {
            Due.is("then", ferry.term(k, k), 1000 - k);
            Due.is("the same once more", ferry.term(k, k), k);
        }
    }

    private static void termIsBad() {
        Due.sentence("2: BAD");
        FerryDecks ferry = new FerryDecks();
        for (int k : new int[] {-1, 8, MIN, MAX}) {
            Due.is("term(" + k + ", 0)", ferry.term(k, 0), FerryDecks.BAD);
            Due.is("term(" + k + ", 1000)", ferry.term(k, 1000), FerryDecks.BAD);
            Due.is("term(" + k + ", 1001)", ferry.term(k, 1001), FerryDecks.BAD);
        }
        for (int v : new int[] {-1, 1001, MIN, MAX}) {
            Due.is("term(3, 77)", ferry.term(3, 77), v == -1 ? 0 : 77);
            Due.is("term(3, " + v + ")", ferry.term(3, v), FerryDecks.BAD);
            Due.is("T3 stays", ferry.term(3, 77), 77);
        }
    }

    private static void deckTellsWhatItHad() {
        Due.sentence("3: A DECK has so many METRES: what it had");
        FerryDecks ferry = new FerryDecks();
        for (int d = 0; d < 3; d++) {
            Due.is("first", ferry.deck(d, 100 + d), 0);
        }
        for (int d = 0; d < 3; d++) {
            Due.is("then", ferry.deck(d, d), 100 + d);
            Due.is("the same once more", ferry.deck(d, d), d);
            Due.is("METRES", ferry.on(d, 0), d);
        }
    }

    private static void deckFrom0To10000() {
        Due.sentence("3: so many METRES (0 .. 10000)");
        FerryDecks ferry = new FerryDecks();
        for (int d = 0; d < 3; d++) {
            Due.is("10000", ferry.deck(d, 10000), 0);
            Due.is("10001", ferry.deck(d, 10001), FerryDecks.BAD);
            Due.is("METRES stay", ferry.on(d, 0), 10000);
            Due.is("0", ferry.deck(d, 0), 10000);
            Due.is("-1", ferry.deck(d, -1), FerryDecks.BAD);
            Due.is("METRES stay", ferry.on(d, 0), 0);
        }
    }

    private static void deckIsBad() {
        Due.sentence("3: BAD");
        FerryDecks ferry = onDeck(10, CAR);
        ferry.board(0, 0, 0, 0);
        for (int d : new int[] {-1, 3, MIN, MAX}) {
            Due.is("deck(" + d + ", 0)", ferry.deck(d, 0), FerryDecks.BAD);
            Due.is("deck(" + d + ", 10001)", ferry.deck(d, 10001), FerryDecks.BAD);
        }
        for (int metres : new int[] {-1, 10001, MIN, MAX}) {
            Due.is("deck(0, " + metres + ")", ferry.deck(0, metres), FerryDecks.BAD);
            Due.is("deck(1, " + metres + ")", ferry.deck(1, metres), FerryDecks.BAD);
        }
        Due.is("METRES stay", ferry.on(0, 0), 10);
    }

    private static void deckLacks() {
        Due.sentence("3: LACK: those on it take more");
        FerryDecks ferry = onDeck(100, CAR, VAN);
        ferry.board(0, 0, 0, 0);
        ferry.board(1, 0, 0, 0);
        Due.is("one too few", ferry.deck(0, 20), FerryDecks.LACK);
        Due.is("METRES stay", ferry.on(0, 0), 100);
        Due.is("left stay", ferry.on(0, 1), 79);
        Due.is("as many as they take", ferry.deck(0, 21), 100);
        Due.is("none left", ferry.on(0, 1), 0);
        Due.is("none", ferry.deck(0, 0), FerryDecks.LACK);
        Due.is("another deck", ferry.deck(1, 0), 0);
        ferry.leave(1);
        Due.is("as many as one takes", ferry.deck(0, 10), 21);
        Due.is("one too few for one", ferry.deck(0, 9), FerryDecks.LACK);
        ferry.leave(0);
        Due.is("none behind all", ferry.deck(0, 0), 10);
    }

    private static void vehicleOfKinds1To9() {
        Due.sentence("4: A VEHICLE of a KIND (1 .. 9)");
        FerryDecks ferry = new FerryDecks();
        Due.is("KIND 0", ferry.vehicle(0, 1, 0), FerryDecks.BAD);
        Due.is("KIND 1", ferry.vehicle(1, 1, 0), 0);
        Due.is("KIND 9", ferry.vehicle(9, 1, 0), 1);
        Due.is("KIND 10", ferry.vehicle(10, 1, 0), FerryDecks.BAD);
        Due.is("told", ferry.told(0, 0), 1);
        Due.is("told", ferry.told(1, 0), 9);
    }

    private static void vehicleNumbersFrom0() {
        Due.sentence("4: its number, from 0 on");
        FerryDecks ferry = new FerryDecks();
        Due.is("first", ferry.vehicle(CAR, 1, 0), 0);
        Due.is("refused", ferry.vehicle(CAR, 0, 0), FerryDecks.BAD);
        Due.is("second: none is lost by BAD", ferry.vehicle(CAR, 2, 0), 1);
        Due.is("its SIZE", ferry.told(1, 1), 2);
    }

    private static void vehicleIsBad() {
        Due.sentence("4: BAD");
        FerryDecks ferry = new FerryDecks();
        for (int kind : new int[] {MIN, -1, 0, 10, MAX}) {
            Due.is("KIND " + kind, ferry.vehicle(kind, 50, 50), FerryDecks.BAD);
        }
        for (int size : new int[] {MIN, -1, 0, 101, MAX}) {
            Due.is("SIZE " + size, ferry.vehicle(CAR, size, 50), FerryDecks.BAD);
        }
        for (int load : new int[] {MIN, -1, 100001, MAX}) {
            Due.is("LOAD " + load, ferry.vehicle(CAR, 50, load), FerryDecks.BAD);
        }
        Due.is("none was made", ferry.count(0), 0);
    }

    private static void vehicleIsFull() {
        Due.sentence("4: FULL: 70 there are");
        FerryDecks ferry = new FerryDecks();
        for (int i = 0; i < 70; i++) {
            Due.is("vehicle " + i, ferry.vehicle(TRUCK, 1 + i, 0), i);
        }
        Due.is("the 71st", ferry.vehicle(TRUCK, 1, 0), FerryDecks.FULL);
        Due.is("vehicles", ferry.count(0), 70);
        Due.is("the first stays", ferry.ask(0, LENGTH, 0), 3);
        Due.is("the last stays", ferry.ask(69, LENGTH, 0), 72);
        Due.is("vehicle 70", ferry.ask(70, LENGTH, 0), Due.LEAST);
        ferry.deck(0, 3);
        ferry.board(0, 0, 0, 0);
        ferry.leave(0);
        Due.is("leave() makes no room", ferry.vehicle(TRUCK, 1, 0), FerryDecks.FULL);
    }

    private static void askMembers0To6() {
        Due.sentence("5: A MEMBER (0 .. 6) of a VEHICLE is asked, with n: the answer");
        FerryDecks ferry = ferryOf(MIXED);
        long[] answers = {11, 0, 4, 8, 5, 5, 0};
        for (int member = 0; member <= 6; member++) {
            Due.is("member " + member, ferry.ask(0, member, 4), answers[member]);
        }
        Due.is("member -1", ferry.ask(0, -1, 4), Due.LEAST);
        Due.is("member 7", ferry.ask(0, 7, 4), Due.LEAST);
        Due.is("the least answer is no BAD", ferry.ask(0, RISK, MIN), MIN);
    }

    private static void askOfNoMatter() {
        Due.sentence("5: n, of 0, 4, 6 of no matter");
        FerryDecks ferry = new FerryDecks();
        ferry.vehicle(SHOW, 12, 13);
        for (int n : new int[] {MIN, -1, 0, 1, MAX}) {
            Due.is("LENGTH of " + n, ferry.ask(0, LENGTH, n), 13);
            Due.is("MARK of " + n, ferry.ask(0, MARK, n), 16);
            Due.is("HOOK of " + n, ferry.ask(0, HOOK, n), 3);
        }
    }

    private static void askIsBad() {
        Due.sentence("5: The least long: BAD");
        FerryDecks ferry = ferryOf(CAMPER, CAR);
        for (int vehicle : new int[] {MIN, -1, 2, MAX}) {
            for (int member = 0; member <= 6; member++) {
                Due.is("member of " + vehicle, ferry.ask(vehicle, member, 1), Long.MIN_VALUE);
            }
        }
        for (int member : new int[] {MIN, -1, 7, MAX}) {
            Due.is("member " + member, ferry.ask(0, member, 1), Long.MIN_VALUE);
            Due.is("BAD, not CAST", ferry.ask(1, member, 1), Long.MIN_VALUE);
        }
        Due.is("no acts", ferry.count(2), 0);
    }

    private static void askIsCast() {
        Due.sentence("5: one more: CAST (5, 6 of one that is not HOOKED)");
        FerryDecks ferry = ferryOf(CAR, VAN, TRUCK);
        for (int vehicle = 0; vehicle < 3; vehicle++) {
            Due.is("PULL", ferry.ask(vehicle, PULL, 1), Long.MIN_VALUE + 1);
            Due.is("HOOK", ferry.ask(vehicle, HOOK, 1), Long.MIN_VALUE + 1);
        }
        Due.is("acts", ferry.count(2), 6);
        Due.is("no failures", ferry.count(3), 0);
        Due.is("pulled()", ferry.pulled(), 0);
    }

    private static void askFailed() {
        Due.sentence("5: 10 more than the least and the number: it FAILED");
        FerryDecks ferry = ferryOf(CAR, GAS);
        ferry.vehicle(TRUCK, 10, 1);
        ferry.ask(1, LASH, 1);
        Due.is("by 1", ferry.ask(0, RISK, 10), Long.MIN_VALUE + 11);
        Due.is("by 2", ferry.ask(2, RISK, 0), Long.MIN_VALUE + 12);
        Due.is("by 3", ferry.ask(1, RISK, 1), Long.MIN_VALUE + 13);
        Due.is("by 4", ferry.ask(1, LASH, 1), Long.MIN_VALUE + 14);
        Due.is("failures", ferry.count(3), 4);
    }

    private static void askFailedLeavesWhatWasDone() {
        Due.sentence("5: it FAILED (what was done till then stays)");
        FerryDecks ferry = ferryOf(GAS);
        ferry.ask(0, LASH, 5);
        ferry.ask(0, LASH, 5);
        Due.is("CHAINS", ferry.told(0, 3), 10);
        Due.trace("the bodies that began", ferry, 83);
        ferry.ask(0, RISK, 7);
        Due.trace("the bodies that began", ferry, 82, 62, 2);
        Due.is("CHAINS", ferry.told(0, 3), 10);
        Due.is("acts", ferry.count(2), 3);
    }

    private static void traceFromTheFirst() {
        Due.sentence("6: Entry i of THE TRACE, from the first (0) on");
        FerryDecks ferry = ferryOf(HOME);
        ferry.ask(0, RISK, 0);
        Due.is("trace(0)", ferry.trace(0), 42);
        Due.is("trace(1)", ferry.trace(1), 22);
        Due.is("trace(2)", ferry.trace(2), 2);
    }

    private static void traceIsBad() {
        Due.sentence("6: BAD: there is none");
        FerryDecks ferry = ferryOf(HOME, CAR);
        Due.is("before any act", ferry.trace(0), FerryDecks.BAD);
        ferry.ask(0, RISK, 0);
        for (int i : new int[] {MIN, -1, 3, 4, 399, 400, MAX}) {
            Due.is("trace(" + i + ")", ferry.trace(i), FerryDecks.BAD);
        }
        ferry.ask(1, RISK, 0);
        Due.is("of a longer act ahead", ferry.trace(1), FerryDecks.BAD);
        ferry.pull(1, 0);
        Due.is("behind CAST", ferry.trace(0), FerryDecks.BAD);
    }

    private static void boardOfDays0To9() {
        Due.sentence("7: for d days (0 .. 9)");
        FerryDecks ferry = onDeck(10, CAR);
        ferry.term(2, 1000);
        Due.is("10 days", ferry.board(0, 0, 0, 10), FerryDecks.BAD);
        Due.is("-1 days", ferry.board(0, 0, 0, -1), FerryDecks.BAD);
        Due.is("9 days", ferry.board(0, 0, 0, 9), 0);
        Due.is("till", ferry.till(), 9000);
        ferry.leave(0);
        Due.is("0 days", ferry.board(0, 0, 0, 0), 0);
        Due.is("till stays", ferry.till(), 9000);
    }

    private static void boardAsksRiskLengthFee() {
        Due.sentence("7: RISK of w is asked, then LENGTH, then FEE of d");
        FerryDecks ferry = onDeck(100, CAMPER, MIXED);
        ferry.board(0, 0, 0, 0);
        Due.trace("CAMPER", ferry, 22, 2, 20, 0, 31, 11, 1, 20, 0);
        ferry.board(1, 0, 9, 0);
        Due.trace("MIXED", ferry, 92, 82, 62, 2, 90, 60, 0, 91, 71, 1, 92, 82, 62, 2);
    }

    private static void boardFillsTheTill() {
        Due.sentence("7: FEE of d: it comes into THE TILL");
        FerryDecks ferry = onDeck(100, CAR, TANKER, CAMPER);
        ferry.term(1, 10);
        ferry.term(2, 3);
        ferry.term(3, 13);
        Due.is("CAR for 1 day", ferry.board(0, 0, 0, 1), 90);
        Due.is("a FEE of 0", ferry.till(), 0);
        Due.is("TANKER for 9 days", ferry.board(1, 0, 0, 9), 78);
        Due.is("till", ferry.till(), 74);
        Due.is("CAMPER for 2 days", ferry.board(2, 0, 0, 2), 67);
        Due.is("till", ferry.till(), 74 + 3 + 11);
    }

    private static void boardTellsMetresLeft() {
        Due.sentence("7: the METRES that are left");
        FerryDecks ferry = onDeck(33, CAR, VAN, TRUCK);
        Due.is("CAR", ferry.board(0, 0, 0, 0), 23);
        Due.is("VAN", ferry.board(1, 0, 0, 0), 12);
        Due.is("TRUCK takes the last", ferry.board(2, 0, 0, 0), 0);
        Due.is("none left", ferry.on(0, 1), 0);
        Due.is("three on it", ferry.on(0, 2), 3);
    }

    private static void boardIsBad() {
        Due.sentence("7: BAD: VEHICLE, DECK, d");
        FerryDecks ferry = onDeck(100, CAR, CAR);
        ferry.board(0, 0, 4, 0);
        for (int wrong : new int[] {MIN, -1, 70, MAX}) {
            Due.is("VEHICLE " + wrong, ferry.board(wrong, 0, 0, 0), FerryDecks.BAD);
            Due.is("DECK " + wrong, ferry.board(1, wrong, 0, 0), FerryDecks.BAD);
            Due.is("d " + wrong, ferry.board(1, 0, 0, wrong), FerryDecks.BAD);
            Due.is("DECK ahead of STATE", ferry.board(0, wrong, 0, 0), FerryDecks.BAD);
            Due.is("d ahead of STATE", ferry.board(0, 0, 0, wrong), FerryDecks.BAD);
            Due.is("d ahead of a FAILURE", ferry.board(1, 0, 10, wrong), FerryDecks.BAD);
            Due.is("d ahead of LACK", ferry.board(1, 1, 0, wrong), FerryDecks.BAD);
        }
        Due.is("VEHICLE 2", ferry.board(2, 0, 0, 0), FerryDecks.BAD);
        Due.is("DECK 3", ferry.board(1, 3, 0, 0), FerryDecks.BAD);
        Due.is("d 10", ferry.board(1, 0, 0, 10), FerryDecks.BAD);
        Due.is("no act", ferry.count(2), 1);
        Due.is("risk stays", ferry.risk(), 4);
        Due.is("still ASHORE", ferry.told(1, 4), -1);
    }

    private static void boardIsState() {
        Due.sentence("7: STATE: it is not ASHORE");
        FerryDecks ferry = onDeck(100, CAR);
        ferry.deck(1, 100);
        ferry.board(0, 0, 4, 1);
        Due.is("on the same", ferry.board(0, 0, 5, 1), FerryDecks.STATE);
        Due.is("on another", ferry.board(0, 1, 5, 1), FerryDecks.STATE);
        Due.is("STATE ahead of a FAILURE", ferry.board(0, 1, 10, 1), FerryDecks.STATE);
        Due.is("STATE ahead of LACK", ferry.board(0, 2, 5, 1), FerryDecks.STATE);
        Due.is("no act", ferry.count(2), 1);
        Due.is("risk stays", ferry.risk(), 4);
        Due.is("its DECK stays", ferry.told(0, 4), 0);
        Due.is("none on the other", ferry.on(1, 2), 0);
    }

    private static void boardFailed() {
        Due.sentence("7: -10 less the number by which RISK or FEE FAILED; where it does not come all stays");
        FerryDecks ferry = onDeck(100, VAN, GAS);
        ferry.vehicle(MIXED, 10, 1);
        ferry.term(1, 100);
        ferry.ask(0, LASH, 3);
        ferry.board(0, 0, 1, 0);
        ferry.leave(0);
        ferry.ask(0, LASH, 3);
        Due.is("by 1", ferry.board(0, 0, 8, 0), -11);
        Due.is("by 2", ferry.board(2, 0, 8, 0), -12);
        Due.is("by 3", ferry.board(1, 0, 7, 0), -13);
        Due.is("risk is that of the one ahead", ferry.risk(), 3);
        Due.is("till", ferry.till(), 100);
        Due.is("left", ferry.on(0, 1), 100);
        Due.is("none on it", ferry.on(0, 2), 0);
        Due.is("ASHORE", ferry.told(0, 4), -1);
        Due.is("takes", ferry.told(0, 5), 0);
        Due.is("CHAINS", ferry.told(0, 3), 4);
        Due.is("acts", ferry.count(2), 6);
        Due.is("failures", ferry.count(3), 3);
        Due.trace("of the latest", ferry, 82, 62, 2);
    }

    /** The only FEE that may FAIL asks a RISK that FAILED ahead of it, so it never FAILS in board(). */
    private static void boardFailsWhereRiskDoes() {
        Due.sentence("7: RISK or FEE FAILED");
        for (int load = 499; load <= 501; load++) {
            FerryDecks ferry = onDeck(11);
            ferry.vehicle(MIXED, 10, load);
            ferry.term(4, 500);
            for (int w = -12; w <= 12; w++) {
                boolean fails = load > 500 || w > 9;
                long asked = fails ? Due.failed(load > 500 ? 2 : 1) : w % 2 == 0 ? w : 50;
                Due.is("RISK of " + w + ", LOAD " + load, ferry.ask(0, RISK, w), asked);
                Due.is("board() in " + w + ", LOAD " + load, ferry.board(0, 0, w, 9),
                        fails ? (load > 500 ? -12 : -11) : 0);
                Due.is("leave()", ferry.leave(0), fails ? FerryDecks.STATE : 11);
            }
        }
    }

    private static void boardLacks() {
        Due.sentence("7: LACK: LENGTH is more than is left (FEE is not asked then)");
        FerryDecks ferry = onDeck(20, CAR, VAN);
        ferry.term(1, 100);
        ferry.board(0, 0, 1, 0);
        ferry.ask(1, LASH, 3);
        Due.is("one too long", ferry.board(1, 0, 3, 0), FerryDecks.LACK);
        Due.trace("no FEE", ferry, 22, 2, 20, 0);
        Due.is("risk is the latest", ferry.risk(), 5);
        Due.is("till", ferry.till(), 100);
        Due.is("left", ferry.on(0, 1), 10);
        Due.is("one on it", ferry.on(0, 2), 1);
        Due.is("ASHORE", ferry.told(1, 4), -1);
        Due.is("takes", ferry.told(1, 5), 0);
        Due.is("CHAINS", ferry.told(1, 3), 4);
        Due.is("an act", ferry.count(2), 3);
        Due.is("no FAILURE", ferry.count(3), 0);
        ferry.deck(0, 21);
        Due.is("just as long as is left", ferry.board(1, 0, 3, 0), 0);
    }

    private static void boardBeginsAnywhereAshore() {
        Due.sentence("7: A VEHICLE ASHORE comes on a DECK");
        FerryDecks ferry = onDeck(10, CAR);
        ferry.deck(2, 10);
        ferry.ask(0, LASH, 5);
        Due.is("on 0", ferry.board(0, 0, 0, 0), 0);
        Due.is("CHAINS stay as it comes", ferry.told(0, 3), 5);
        ferry.leave(0);
        Due.is("on 2 then", ferry.board(0, 2, 0, 0), 0);
        Due.is("its DECK", ferry.told(0, 4), 2);
        Due.is("none on 0", ferry.on(0, 2), 0);
    }

    private static void leaveTellsMetresLeft() {
        Due.sentence("8: A VEHICLE on a DECK goes ASHORE: the METRES that are left on that");
        FerryDecks ferry = onDeck(30, CAR, CAR);
        ferry.deck(1, 50);
        ferry.board(0, 0, 0, 0);
        ferry.board(1, 0, 0, 0);
        Due.is("one leaves", ferry.leave(0), 20);
        Due.is("one on it", ferry.on(0, 2), 1);
        Due.is("ASHORE", ferry.told(0, 4), -1);
        Due.is("takes", ferry.told(0, 5), 0);
        Due.is("the other leaves", ferry.leave(1), 30);
        Due.is("none on it", ferry.on(0, 2), 0);
        ferry.board(0, 1, 0, 0);
        Due.is("from another DECK", ferry.leave(0), 50);
    }

    private static void leaveTakesChains() {
        Due.sentence("8: its CHAINS are 0");
        FerryDecks ferry = onDeck(30, CAR, CAR);
        ferry.ask(0, LASH, -4);
        ferry.ask(1, LASH, 7);
        ferry.board(0, 0, 0, 0);
        ferry.board(1, 0, 0, 0);
        ferry.leave(0);
        Due.is("CHAINS of it", ferry.told(0, 3), 0);
        Due.is("CHAINS of the other", ferry.told(1, 3), 7);
        Due.is("LASH begins at 0", ferry.ask(0, LASH, 2), 2);
    }

    private static void leaveIsBadOrState() {
        Due.sentence("8: BAD; STATE");
        FerryDecks ferry = onDeck(30, CAR);
        for (int vehicle : new int[] {MIN, -1, 1, 70, MAX}) {
            Due.is("leave(" + vehicle + ")", ferry.leave(vehicle), FerryDecks.BAD);
        }
        ferry.ask(0, LASH, 7);
        Due.is("never on a DECK", ferry.leave(0), FerryDecks.STATE);
        Due.is("CHAINS stay then", ferry.told(0, 3), 7);
        ferry.board(0, 0, 0, 0);
        ferry.leave(0);
        Due.is("not twice", ferry.leave(0), FerryDecks.STATE);
        Due.is("left", ferry.on(0, 1), 30);
        Due.is("none on it", ferry.on(0, 2), 0);
    }

    private static void riskIs0Before() {
        Due.sentence("9: 0 before");
        FerryDecks ferry = onDeck(30, CAR);
        Due.is("new", ferry.risk(), 0);
        ferry.ask(0, RISK, 5);
        Due.is("behind ask()", ferry.risk(), 0);
        ferry.board(0, 0, 10, 0);
        Due.is("behind a FAILURE", ferry.risk(), 0);
        ferry.board(0, 0, 5, 10);
        Due.is("behind BAD", ferry.risk(), 0);
    }

    private static void riskIsTheLatest() {
        Due.sentence("9: what RISK was told as in the latest board() that asked it and in which it did not FAIL");
        FerryDecks ferry = onDeck(30, CAR, VAN, MIXED, HOME);
        ferry.board(0, 0, 5, 0);
        Due.is("one that came", ferry.risk(), 5);
        ferry.board(1, 0, 8, 0);
        Due.is("one that FAILED", ferry.risk(), 5);
        ferry.board(0, 0, 6, 0);
        Due.is("STATE", ferry.risk(), 5);
        ferry.leave(0);
        Due.is("leave()", ferry.risk(), 5);
        ferry.board(1, 1, 6, 0);
        Due.is("LACK", ferry.risk(), 8);
        ferry.board(2, 0, 9, 0);
        Due.is("RISK of w, not the one that FEE asks", ferry.risk(), 50);
        ferry.board(3, 0, 10, 0);
        Due.is("one that is taken", ferry.risk(), 20);
        ferry.board(1, 2, MIN, 0);
        Due.is("below 0", ferry.risk(), MIN + 2);
    }

    private static void pullAnswers1() {
        Due.sentence("10: A VEHICLE's hook is pulled by n: 1, and what PULL of n answers is told by pulled()");
        FerryDecks ferry = new FerryDecks();
        ferry.vehicle(TANKER, 9, 5000);
        int[][] pulls = {{0, 9}, {1, 14}, {-2, -1}, {MAX, MAX - 4 + 9}, {MIN, MIN + 9}};
        for (int[] pull : pulls) {
            Due.is("pull(0, " + pull[0] + ")", ferry.pull(0, pull[0]), 1);
            Due.is("pulled()", ferry.pulled(), pull[1]);
            Due.trace("pull()", ferry, 5, 76, 4);
        }
        Due.is("acts", ferry.count(2), 5);
    }

    private static void pullIsCast() {
        Due.sentence("10: CAST");
        FerryDecks ferry = ferryOf(CAR, VAN, TRUCK);
        for (int vehicle = 0; vehicle < 3; vehicle++) {
            Due.is("pull(" + vehicle + ")", ferry.pull(vehicle, 1), FerryDecks.CAST);
        }
        Due.is("acts", ferry.count(2), 3);
        Due.is("no failures", ferry.count(3), 0);
    }

    private static void pullIsBad() {
        Due.sentence("10: BAD");
        FerryDecks ferry = ferryOf(CAMPER);
        for (int vehicle : new int[] {MIN, -1, 1, 70, MAX}) {
            Due.is("pull(" + vehicle + ")", ferry.pull(vehicle, 1), FerryDecks.BAD);
        }
        Due.is("no acts", ferry.count(2), 0);
    }

    private static void pulledIs0Before() {
        Due.sentence("11: 0 before");
        FerryDecks ferry = ferryOf(CAMPER, CAR);
        Due.is("new", ferry.pulled(), 0);
        ferry.ask(0, PULL, 4);
        Due.is("behind ask()", ferry.pulled(), 0);
        ferry.pull(1, 4);
        Due.is("behind CAST", ferry.pulled(), 0);
        ferry.pull(2, 4);
        Due.is("behind BAD", ferry.pulled(), 0);
    }

    private static void pulledIsTheLatestThatAnswered1() {
        Due.sentence("11: The answer of the latest pull() that answered 1");
        FerryDecks ferry = ferryOf(CAMPER, CAR);
        ferry.pull(0, 4);
        ferry.pull(0, 5);
        Due.is("the latest", ferry.pulled(), 15);
        ferry.pull(1, 6);
        Due.is("behind CAST", ferry.pulled(), 15);
        ferry.pull(-1, 6);
        Due.is("behind BAD", ferry.pulled(), 15);
        ferry.ask(0, PULL, 6);
        Due.is("behind ask()", ferry.pulled(), 15);
        ferry.pull(0, 0);
        Due.is("of 0", ferry.pulled(), 0);
    }

    private static void toldWhat() {
        Due.sentence("12: KIND, SIZE, LOAD, CHAINS, its DECK (-1: ASHORE), the METRES (0: ASHORE)");
        FerryDecks ferry = new FerryDecks();
        ferry.vehicle(VAN, 100, 100000);
        ferry.deck(2, 101);
        ferry.ask(0, LASH, -10);
        long[] ashore = {2, 100, 100000, -9, -1, 0};
        long[] onDeck = {2, 100, 100000, -9, 2, 101};
        long[] back = {2, 100, 100000, 0, -1, 0};
        toldAll(ferry, ashore);
        ferry.board(0, 2, 0, 0);
        toldAll(ferry, onDeck);
        ferry.leave(0);
        toldAll(ferry, back);
    }

    private static void toldAll(FerryDecks ferry, long[] want) {
        for (int what = 0; what < 6; what++) {
            Due.is("told(0, " + what + ")", ferry.told(0, what), want[what]);
        }
    }

    private static void toldIsBad() {
        Due.sentence("12: The least long: BAD");
        FerryDecks ferry = ferryOf(CAR);
        for (int wrong : new int[] {MIN, -1, 6, MAX}) {
            Due.is("told(0, " + wrong + ")", ferry.told(0, wrong), Long.MIN_VALUE);
        }
        for (int wrong : new int[] {MIN, -1, 1, 69, 70, MAX}) {
            for (int what = 0; what < 6; what++) {
                Due.is("told(" + wrong + ", " + what + ")", ferry.told(wrong, what), Long.MIN_VALUE);
            }
        }
    }

    private static void onWhat() {
        Due.sentence("13: 0 METRES, 1 those left, 2 how many are on it");
        FerryDecks ferry = onDeck(25, CAR, CAR);
        ferry.board(0, 0, 0, 0);
        ferry.board(1, 0, 0, 0);
        Due.is("METRES", ferry.on(0, 0), 25);
        Due.is("left", ferry.on(0, 1), 5);
        Due.is("how many", ferry.on(0, 2), 2);
        for (int d = 1; d < 3; d++) {
            Due.is("METRES of " + d, ferry.on(d, 0), 0);
            Due.is("left of " + d, ferry.on(d, 1), 0);
            Due.is("how many on " + d, ferry.on(d, 2), 0);
        }
    }

    private static void onIsBad() {
        Due.sentence("13: BAD");
        FerryDecks ferry = onDeck(25, CAR);
        for (int wrong : new int[] {MIN, -1, 3, MAX}) {
            Due.is("on(0, " + wrong + ")", ferry.on(0, wrong), FerryDecks.BAD);
            Due.is("on(2, " + wrong + ")", ferry.on(2, wrong), FerryDecks.BAD);
            for (int what = 0; what < 3; what++) {
                Due.is("on(" + wrong + ", " + what + ")", ferry.on(wrong, what), FerryDecks.BAD);
            }
        }
    }

    private static void tillIsALong() {
        Due.sentence("14: THE TILL (a long)");
        FerryDecks ferry = onDeck(10000, MIXED);
        ferry.term(1, 1000);
        ferry.term(2, 1000);
        Due.is("0 at first", ferry.till(), 0);
        for (int i = 1; i <= 160; i++) {
            ferry.board(0, 0, 0, 9);
            ferry.leave(0);
            Due.is("of the dearest", ferry.till(), i * 20000L);
        }
        ferry.ask(0, FEE, 9);
        Due.is("ask() is free", ferry.till(), 160 * 20000L);
    }

    private static void countVehicles() {
        Due.sentence("15: 0 VEHICLES");
        FerryDecks ferry = ferryOf(CAR, VAN);
        Due.is("two", ferry.count(0), 2);
        ferry.vehicle(0, 1, 1);
        Due.is("BAD makes none", ferry.count(0), 2);
        ferry.deck(0, 10);
        ferry.board(0, 0, 0, 0);
        Due.is("one on a DECK is one still", ferry.count(0), 2);
    }

    private static void countEntries() {
        Due.sentence("15: 1 entries of THE TRACE");
        FerryDecks ferry = ferryOf(HOME, CAR);
        Due.is("before any act", ferry.count(1), 0);
        ferry.ask(0, LENGTH, 0);
        Due.is("three", ferry.count(1), 3);
        ferry.ask(1, LENGTH, 0);
        Due.is("one", ferry.count(1), 1);
        ferry.ask(1, HOOK, 0);
        Due.is("CAST", ferry.count(1), 0);
        ferry.ask(1, RISK, 10);
        Due.is("FAILED", ferry.count(1), 1);
        ferry.ask(0, 7, 0);
        Due.is("BAD", ferry.count(1), 1);
    }

    private static void countActs() {
        Due.sentence("15: 2 acts ever (CAST ones, too)");
        FerryDecks ferry = onDeck(10, CAR, CAMPER);
        Due.is("before any", ferry.count(2), 0);
        ferry.ask(0, LENGTH, 0);
        Due.is("ask()", ferry.count(2), 1);
        ferry.ask(0, RISK, 10);
        Due.is("ask() that FAILED", ferry.count(2), 2);
        ferry.ask(0, HOOK, 0);
        Due.is("ask() with CAST", ferry.count(2), 3);
        ferry.pull(0, 0);
        Due.is("pull() with CAST", ferry.count(2), 4);
        ferry.pull(1, 0);
        Due.is("pull()", ferry.count(2), 5);
        ferry.board(0, 0, 10, 0);
        Due.is("board() that FAILED", ferry.count(2), 6);
        ferry.board(1, 0, 0, 0);
        Due.is("board() with LACK", ferry.count(2), 7);
        ferry.board(0, 0, 0, 0);
        Due.is("board()", ferry.count(2), 8);
        ferry.board(0, 0, 0, 0);
        ferry.board(0, 0, 0, 10);
        ferry.ask(0, 7, 0);
        ferry.pull(2, 0);
        Due.is("STATE, BAD", ferry.count(2), 8);
        ferry.leave(0);
        Due.is("leave()", ferry.count(2), 8);
    }

    private static void countFailures() {
        Due.sentence("15: 3 how many of these ended by a FAILURE");
        FerryDecks ferry = onDeck(10, CAR, HOME, MIXED);
        Due.is("before any", ferry.count(3), 0);
        ferry.ask(0, RISK, 10);
        Due.is("ask()", ferry.count(3), 1);
        ferry.board(0, 0, 10, 0);
        Due.is("board()", ferry.count(3), 2);
        ferry.board(0, 1, 0, 0);
        Due.is("LACK is none", ferry.count(3), 2);
        ferry.pull(0, 0);
        ferry.ask(0, PULL, 0);
        Due.is("CAST is none", ferry.count(3), 2);
        ferry.ask(1, RISK, 10);
        ferry.ask(2, RISK, 9);
        ferry.ask(2, LASH, 9);
        ferry.ask(2, LASH, 9);
        ferry.board(1, 0, 10, 0);
        Due.is("one that is taken is none", ferry.count(3), 2);
        ferry.ask(0, 7, 0);
        ferry.board(0, 3, 10, 0);
        Due.is("BAD is none", ferry.count(3), 2);
    }

    private static void countIsBad() {
        Due.sentence("15: BAD");
        FerryDecks ferry = ferryOf(CAR);
        for (int what : new int[] {MIN, -1, 4, MAX}) {
            Due.is("count(" + what + ")", ferry.count(what), FerryDecks.BAD);
        }
    }
}
