/** 'What it is' and 'Terms' of the document: each sentence with an edge has a method of its own. */
public final class TermsEdgeTest {
    private static final int LENGTH = 0, FEE = 1, RISK = 2, LASH = 3, MARK = 4, PULL = 5, HOOK = 6;
    private static final int VEHICLE = 0, CAR = 1, VAN = 2, CAMPER = 3, HOME = 4, SHOW = 5;
    private static final int TRUCK = 6, TANKER = 7, GAS = 8, MIXED = 9;
    private static final int MIN = Integer.MIN_VALUE, MAX = Integer.MAX_VALUE;

    public static void main(String[] args) {
        the512thCall();
        laterCallsEnd();
        kindVehicleIsNeverMade();
        termsFrom0To1000();
        termsAre0AtFirst();
        sizeFrom1To100();
        loadFrom0To100000();
        chainsAreAnInt();
        chainsAre0AtFirst();
        intsWrapInFees();
        intsWrapInRisks();
        intsWrapInLashes();
        intsWrapInPulls();
        divisionsCut();
        restsHaveTheSignOfWhatIsDivided();
        nearestKindAbove();
        askedInTheOrderWritten();
        eachThatAskedEndsToo();
        mixedIsNotBelow1();
        carsFeeIsNotBelow0();
        showsFeeHasAboveOf0();
        mixedsFeeMayFail();
        riskAbove9();
        vansRiskOfTwoMore();
        homeTakes1();
        trucksLoadAboveT4();
        gasFailsBy3BehindThat();
        mixedTakes3();
        vansLatterLashIsTold();
        gasChainsAboveT5();
        mixedTakes4();
        marks();
        hookedAre();
        showHasItsOwnPull();
        mixedsHookIsAskedTwice();
        eachBodyIsWrittenAheadOfWhatItDoes();
        traceIsOfTheLatestAct();
        traceHasFewEntries();
        traceOfCastIsEmpty();
        decksFrom0To2();
        decksHaveNoMetresAtFirst();
        lengthAsItWasToldWhenTheyCame();
        ashoreAtFirst();
        Due.end();
    }

    private static FerryDecks ferryOf(int kind, int size, int load) {
        FerryDecks ferry = new FerryDecks();
        ferry.vehicle(kind, size, load);
        return ferry;
    }

    private static FerryDecks terms(FerryDecks ferry, int... kv) {
        for (int i = 0; i < kv.length; i += 2) {
            int before = ferry.term(kv[i], kv[i + 1]);
            Due.is("term(" + kv[i] + ", " + kv[i + 1] + ") is taken", before >= 0 ? 1 : 0, 1);
        }
        return ferry;
    }

    /** Asks vehicle 0, and looks at the trace, too. */
    private static void asked(FerryDecks ferry, int member, int n, long want, int... trace) {
        String call = "ask(0, " + member + ", " + n + ") of kind " + ferry.told(0, 0);
        Due.is(call, ferry.ask(0, member, n), want);
        Due.trace(call, ferry, trace);
    }

    private static void the512thCall() {
        Due.sentence("An object is used for at most 512 calls after it has been made");
        FerryDecks ferry = ferryOf(VAN, 5, 5);
        for (int i = 1; i <= 255; i++) {
            Due.is("LASH " + i, ferry.ask(0, LASH, 1), 2L * i);
            Due.is("acts " + i, ferry.count(2), i);
        }
        Due.is("the 512th call", ferry.told(0, 3), 510);
        ferry = ferryOf(SHOW, 1, 0);
        ferry.deck(0, 10000);
        terms(ferry, 0, 1000, 1, 1000, 2, 1000);
        for (int i = 1; i <= 168; i++) {
            Due.is("board " + i, ferry.board(0, 0, 0, 9), 8998);
            Due.is("till " + i, ferry.till(), i * 13004L);
            Due.is("leave " + i, ferry.leave(0), 10000);
        }
        Due.is("the 510th call", ferry.count(1), 19);
        Due.is("the 511th call", ferry.count(2), 168);
        Due.is("the 512th call", ferry.till(), 168 * 13004L);
    }

    private static void laterCallsEnd() {
        Due.sentence("what later calls answer is free (LANGUAGE.md 7: no call may ever throw)");
        FerryDecks ferry = new FerryDecks();
        int[] numbers = {MIN, -1, 0, 1, 3, 9, 69, 70, 400, 1000, MAX};
        for (int i = 0; i < 20000; i++) {
            int a = numbers[i % 11];
            int b = numbers[i / 11 % 11];
            int c = numbers[i / 121 % 11];
            ferry.term(a, b);
            ferry.deck(a, b);
            ferry.vehicle(1 + i % 9, 1 + i % 100, i);
            ferry.ask(i % 71, i % 7, a);
            ferry.ask(a, b, c);
            ferry.trace(a);
            ferry.board(i % 71, i % 3, a, i % 10);
            ferry.board(a, b, c, i % 10);
            ferry.leave(i % 73);
            ferry.pull(i % 71, a);
            ferry.pull(a, b);
            ferry.told(a, b);
            ferry.on(a, b);
            ferry.count(a);
        }
        Due.is("vehicles are kept as many as there may be", ferry.count(0), 70);
    }

    private static void kindVehicleIsNeverMade() {
        Due.sentence("0 VEHICLE (of none, never made)");
        FerryDecks ferry = new FerryDecks();
        Due.is("vehicle(0, 1, 0)", ferry.vehicle(VEHICLE, 1, 0), FerryDecks.BAD);
        Due.is("vehicles", ferry.count(0), 0);
    }

    private static void termsFrom0To1000() {
        Due.sentence("TERMS T0 .. T7 are 0 .. 1000");
        FerryDecks ferry = new FerryDecks();
        for (int k = 0; k <= 7; k++) {
            Due.is("T" + k + " of 1000", ferry.term(k, 1000), 0);
            Due.is("T" + k + " of 0", ferry.term(k, 0), 1000);
            Due.is("T" + k + " of 1001", ferry.term(k, 1001), FerryDecks.BAD);
            Due.is("T" + k + " of -1", ferry.term(k, -1), FerryDecks.BAD);
            Due.is("T" + k + " stays", ferry.term(k, 0), 0);
        }
        Due.is("T8", ferry.term(8, 0), FerryDecks.BAD);
        Due.is("T-1", ferry.term(-1, 0), FerryDecks.BAD);
    }

    private static void termsAre0AtFirst() {
        Due.sentence("TERMS (0 at first)");
        asked(ferryOf(HOME, 5, 0), LENGTH, 0, 6, 40, 20, 0);
        asked(ferryOf(TRUCK, 5, 0), FEE, 9, 0, 1);
        asked(ferryOf(TRUCK, 5, 1), RISK, 0, Due.failed(2), 62);
        asked(ferryOf(TRUCK, 5, 0), RISK, 0, 0, 62, 2);
        asked(ferryOf(SHOW, 5, 0), HOOK, 0, 3, 56, 36);
        FerryDecks gas = ferryOf(GAS, 5, 0);
        asked(gas, LASH, 1, 2, 83, 73, 3);
        asked(gas, LASH, 1, Due.failed(4), 83);
    }

    private static void sizeFrom1To100() {
        Due.sentence("A VEHICLE has a SIZE (1 .. 100)");
        FerryDecks ferry = new FerryDecks();
        Due.is("SIZE 0", ferry.vehicle(CAR, 0, 0), FerryDecks.BAD);
        Due.is("SIZE 101", ferry.vehicle(CAR, 101, 0), FerryDecks.BAD);
        Due.is("SIZE 1", ferry.vehicle(CAR, 1, 0), 0);
        Due.is("SIZE 100", ferry.vehicle(CAR, 100, 0), 1);
        Due.is("LENGTH of the least", ferry.ask(0, LENGTH, 0), 1);
        Due.is("LENGTH of the most", ferry.ask(1, LENGTH, 0), 100);
    }

    private static void loadFrom0To100000() {
        Due.sentence("a LOAD (0 .. 100000)");
        FerryDecks ferry = new FerryDecks();
        Due.is("LOAD -1", ferry.vehicle(TANKER, 1, -1), FerryDecks.BAD);
        Due.is("LOAD 100001", ferry.vehicle(TANKER, 1, 100001), FerryDecks.BAD);
        Due.is("LOAD 0", ferry.vehicle(TANKER, 1, 0), 0);
        Due.is("LOAD 100000", ferry.vehicle(TANKER, 1, 100000), 1);
        Due.is("HOOK of the least", ferry.ask(0, HOOK, 0), 0);
        Due.is("HOOK of the most", ferry.ask(1, HOOK, 0), 100);
    }

    private static void chainsAreAnInt() {
        Due.sentence("CHAINS (an int)");
        FerryDecks ferry = ferryOf(CAR, 5, 0);
        asked(ferry, LASH, -7, -7, 3);
        Due.is("CHAINS below 0", ferry.told(0, 3), -7);
        asked(ferry, LASH, 7, 0, 3);
        asked(ferry, LASH, MAX, MAX, 3);
        Due.is("the most CHAINS", ferry.told(0, 3), MAX);
        asked(ferry, LASH, 1, MIN, 3);
        Due.is("the least CHAINS", ferry.told(0, 3), MIN);
        asked(ferry, LASH, -1, MAX, 3);
    }

    private static void chainsAre0AtFirst() {
        Due.sentence("CHAINS (0 at first)");
        for (int kind = CAR; kind <= MIXED; kind++) {
            FerryDecks ferry = ferryOf(kind, 100, 100000);
            Due.is("CHAINS of " + kind, ferry.told(0, 3), 0);
        }
    }

    private static void intsWrapInFees() {
        Due.sentence("All is reckoned in ints, that wrap: FEE");
        FerryDecks truck = terms(ferryOf(TRUCK, 5, 0), 1, 1000, 2, 2);
        asked(truck, FEE, 1 << 30, MIN + 1000, 1);
        asked(truck, FEE, MAX, 998, 1);
        terms(truck, 2, 1);
        asked(truck, FEE, MAX, MIN + 999, 1);
        FerryDecks tanker = terms(ferryOf(TANKER, 5, 0), 2, 1);
        asked(tanker, FEE, 1 << 30, MIN, 71, 1);
        asked(tanker, FEE, MIN, 0, 71, 1);
        FerryDecks car = terms(ferryOf(CAR, 5, 0), 2, 1, 3, 1);
        asked(car, FEE, MIN, MAX, 11, 1);
        asked(car, FEE, MIN + 1, 0, 11, 1);
        FerryDecks camper = terms(ferryOf(CAMPER, 5, 0), 2, 1);
        asked(camper, FEE, MAX, MIN + 5, 31, 11, 1, 20, 0);
        asked(camper, FEE, MAX - 6, MAX, 31, 11, 1, 20, 0);
        FerryDecks show = terms(ferryOf(SHOW, 5, 0), 2, 1);
        asked(show, FEE, MAX - 6, MIN + 5, 51, 31, 11, 1, 40, 20, 0, 31, 11, 1, 40, 20, 0);
    }

    private static void intsWrapInRisks() {
        Due.sentence("All is reckoned in ints, that wrap: RISK");
        FerryDecks van = ferryOf(VAN, 5, 0);
        asked(van, RISK, MAX, MIN + 1, 22, 2);
        asked(van, RISK, MAX - 1, MIN, 22, 2);
        asked(van, RISK, MAX - 2, Due.failed(1), 22, 2);
        FerryDecks home = ferryOf(HOME, 5, 0);
        asked(home, RISK, MAX - 1, MIN, 42, 22, 2);
        asked(home, RISK, MAX - 2, 20, 42, 22, 2);
    }

    private static void intsWrapInLashes() {
        Due.sentence("All is reckoned in ints, that wrap: LASH");
        FerryDecks van = ferryOf(VAN, 5, 0);
        asked(van, LASH, MAX, MIN, 23, 3, 3);
        asked(van, LASH, -1, MIN, 23, 3, 3);
        FerryDecks tanker = ferryOf(TANKER, 5, 0);
        asked(tanker, LASH, MAX, -2, 73, 3);
        asked(tanker, LASH, MIN, -2, 73, 3);
        asked(tanker, LASH, 1 << 30, MAX - 1, 73, 3);
        asked(tanker, LASH, 1, MIN, 73, 3);
    }

    private static void intsWrapInPulls() {
        Due.sentence("All is reckoned in ints, that wrap: PULL");
        FerryDecks camper = ferryOf(CAMPER, 9, 6);
        asked(camper, PULL, MAX, MAX - 2 + 15, 5, 36, 34, 4);
        asked(camper, PULL, MIN, MIN + 15, 5, 36, 34, 4);
        FerryDecks show = ferryOf(SHOW, 9, 6);
        asked(show, PULL, MAX, MIN + 30, 55, 5, 56, 36, 54, 34, 4);
        asked(show, PULL, -1, 30, 55, 5, 56, 36, 54, 34, 4);
        FerryDecks tanker = ferryOf(TANKER, 9, 1000);
        asked(tanker, PULL, MAX, MIN + 8, 5, 76, 4);
        asked(tanker, PULL, MAX - 9, MAX, 5, 76, 4);
        FerryDecks mixed = ferryOf(MIXED, 9, 1000);
        asked(mixed, PULL, 1 << 30, MIN + 14, 5, 96, 76, 76, 84, 4);
    }

    private static void divisionsCut() {
        Due.sentence("divisions cut");
        int[][] lashes = {{3, 2}, {2, 2}, {1, 1}, {0, 1}, {-1, 1}, {-2, 0}, {-3, 0}, {-4, -1}};
        for (int[] lash : lashes) {
            asked(ferryOf(HOME, 5, 0), LASH, lash[0], lash[1], 43, 23, 3, 3);
        }
        asked(ferryOf(HOME, 5, 0), LASH, MIN, (1 << 30) * -1 + 1, 43, 23, 3, 3);
        int[][] hooks = {{0, 0}, {999, 0}, {1000, 1}, {1999, 1}, {2000, 2}, {99999, 99}, {100000, 100}};
        for (int[] hook : hooks) {
            asked(ferryOf(TANKER, 5, hook[0]), HOOK, 0, hook[1], 76);
        }
    }

    private static void restsHaveTheSignOfWhatIsDivided() {
        Due.sentence("rests have the sign of what is divided");
        int[][] sizes = {{1, 1}, {9, 9}, {10, 0}, {11, 1}, {99, 9}, {100, 0}};
        for (int[] size : sizes) {
            asked(ferryOf(CAR, size[0], 0), MARK, 0, size[1], 4);
        }
        int[][] loads = {{0, 0}, {6, 6}, {7, 0}, {8, 1}, {99994, 6}, {99995, 0}, {100000, 5}};
        for (int[] load : loads) {
            asked(ferryOf(CAMPER, 10, load[0]), MARK, 0, load[1], 34, 4);
        }
        asked(ferryOf(GAS, 5, 0), RISK, -1, Due.failed(3), 82, 62, 2);
        asked(ferryOf(GAS, 5, 0), RISK, -2, -2, 82, 62, 2);
        asked(ferryOf(GAS, 5, 0), RISK, MIN + 1, Due.failed(3), 82, 62, 2);
        asked(ferryOf(GAS, 5, 0), RISK, MIN, MIN, 82, 62, 2);
    }

    private static void nearestKindAbove() {
        Due.sentence("a KIND without one has that of the nearest KIND above that has one");
        int[][] first = {
            {0, 11, 2, 3, 4, -1, -1}, {20, 11, 22, 23, 4, -1, -1}, {20, 31, 22, 23, 34, 5, 36},
            {40, 31, 42, 43, 34, 5, 36}, {40, 51, 42, 43, 54, 55, 56}, {60, 1, 62, 3, 4, -1, -1},
            {60, 71, 62, 73, 4, 5, 76}, {60, 71, 82, 83, 84, 5, 76}, {90, 91, 92, 93, 84, 5, 96}
        };
        for (int kind = CAR; kind <= MIXED; kind++) {
            for (int member = LENGTH; member <= HOOK; member++) {
                FerryDecks ferry = ferryOf(kind, 5, 0);
                ferry.ask(0, member, 0);
                String body = "the first body of " + member + " of kind " + kind;
                Due.is(body, ferry.trace(0), first[kind - 1][member]);
            }
        }
    }

    private static void askedInTheOrderWritten() {
        Due.sentence("What a BODY asks is asked in the order in which it is written");
        asked(ferryOf(CAMPER, 5, 0), FEE, 0, 6, 31, 11, 1, 20, 0);
        asked(ferryOf(MIXED, 5, 0), FEE, 0, 0, 91, 71, 1, 92, 82, 62, 2);
        asked(ferryOf(CAMPER, 5, 0), PULL, 0, 5, 5, 36, 34, 4);
        asked(ferryOf(VAN, 5, 0), LASH, 5, 6, 23, 3, 3);
    }

    private static void eachThatAskedEndsToo() {
        Due.sentence("it ends then, and so does each that asked it, but one that is told to take that number");
        asked(ferryOf(CAMPER, 5, 0), RISK, 8, Due.failed(1), 22, 2);
        asked(ferryOf(TANKER, 5, 0), RISK, 10, Due.failed(1), 62, 2);
        asked(ferryOf(GAS, 5, 0), RISK, 11, Due.failed(1), 82, 62, 2);
        asked(ferryOf(MIXED, 5, 0), RISK, 11, Due.failed(1), 92, 82, 62, 2);
        asked(ferryOf(MIXED, 5, 1), FEE, 1, Due.failed(2), 91, 71, 1, 92, 82, 62);
        FerryDecks home = ferryOf(HOME, 5, 0);
        asked(home, RISK, 8, 20, 42, 22, 2);
        Due.is("one that is taken is no FAILURE", home.count(3), 0);
        FerryDecks van = ferryOf(VAN, 5, 0);
        asked(van, RISK, 8, Due.failed(1), 22, 2);
        asked(van, RISK, 7, 9, 22, 2);
        asked(van, LENGTH, 0, 6, 20, 0);
        Due.is("a FAILURE is over with its act", van.count(3), 1);
    }

    private static void mixedIsNotBelow1() {
        Due.sentence("MIXED: ABOVE less 1, but 1, if that is below 1");
        asked(ferryOf(MIXED, 1, 0), LENGTH, 0, 2, 90, 60, 0);
        asked(ferryOf(MIXED, 100, 0), LENGTH, 0, 101, 90, 60, 0);
    }

    private static void carsFeeIsNotBelow0() {
        Due.sentence("CAR: ABOVE of d less T3, but 0, if that is below 0");
        FerryDecks car = terms(ferryOf(CAR, 5, 0), 1, 10, 2, 1, 3, 13);
        asked(car, FEE, 2, 0, 11, 1);
        asked(car, FEE, 3, 0, 11, 1);
        asked(car, FEE, 4, 1, 11, 1);
        asked(car, FEE, -1000, 0, 11, 1);
        FerryDecks truck = terms(ferryOf(TRUCK, 5, 0), 1, 10, 2, 1, 3, 13);
        asked(truck, FEE, -1000, -990, 1);
    }

    private static void showsFeeHasAboveOf0() {
        Due.sentence("SHOW: ABOVE of d, and ABOVE of 0");
        FerryDecks show = terms(ferryOf(SHOW, 5, 0), 0, 2, 1, 10, 2, 1, 3, 13);
        int[] bodies = {51, 31, 11, 1, 40, 20, 0, 31, 11, 1, 40, 20, 0};
        asked(show, FEE, 3, 8 + 8, bodies);
        asked(show, FEE, 4, 9 + 8, bodies);
        terms(show, 3, 9);
        asked(show, FEE, 0, 9 + 9, bodies);
        asked(show, FEE, -1, 8 + 9, bodies);
    }

    private static void mixedsFeeMayFail() {
        Due.sentence("MIXED: ABOVE of d, and the RISK of the VEHICLE of 0 (it may FAIL)");
        FerryDecks mixed = terms(ferryOf(MIXED, 5, 1000), 1, 7, 2, 1, 4, 1000);
        asked(mixed, FEE, 3, 20, 91, 71, 1, 92, 82, 62, 2);
        asked(mixed, FEE, MAX, 12, 91, 71, 1, 92, 82, 62, 2);
        terms(mixed, 4, 999);
        asked(mixed, FEE, 3, Due.failed(2), 91, 71, 1, 92, 82, 62);
        Due.is("a FAILURE", mixed.count(3), 1);
    }

    private static void riskAbove9() {
        Due.sentence("VEHICLE: FAILS by 1, if w is above 9; else w");
        FerryDecks car = ferryOf(CAR, 5, 100000);
        asked(car, RISK, 9, 9, 2);
        asked(car, RISK, 10, Due.failed(1), 2);
        asked(car, RISK, MAX, Due.failed(1), 2);
        asked(car, RISK, 0, 0, 2);
        asked(car, RISK, -1, -1, 2);
        asked(car, RISK, MIN, MIN, 2);
    }

    private static void vansRiskOfTwoMore() {
        Due.sentence("VAN: ABOVE of w + 2");
        FerryDecks van = ferryOf(VAN, 5, 100000);
        asked(van, RISK, 7, 9, 22, 2);
        asked(van, RISK, 8, Due.failed(1), 22, 2);
        asked(van, RISK, MIN, MIN + 2, 22, 2);
    }

    private static void homeTakes1() {
        Due.sentence("HOME: ABOVE of w; 20, if that FAILS by 1");
        for (int kind = HOME; kind <= SHOW; kind++) {
            asked(ferryOf(kind, 5, 0), RISK, 7, 9, 42, 22, 2);
            asked(ferryOf(kind, 5, 0), RISK, 8, 20, 42, 22, 2);
            asked(ferryOf(kind, 5, 0), RISK, 1000, 20, 42, 22, 2);
        }
    }

    private static void trucksLoadAboveT4() {
        Due.sentence("TRUCK: FAILS by 2, if LOAD is above T4 (ABOVE is not asked then); else ABOVE of w");
        asked(terms(ferryOf(TRUCK, 5, 700), 4, 700), RISK, 9, 9, 62, 2);
        asked(terms(ferryOf(TRUCK, 5, 701), 4, 700), RISK, 9, Due.failed(2), 62);
        asked(terms(ferryOf(TRUCK, 5, 701), 4, 700), RISK, 10, Due.failed(2), 62);
        asked(terms(ferryOf(TRUCK, 5, 700), 4, 700), RISK, 10, Due.failed(1), 62, 2);
        asked(terms(ferryOf(TANKER, 5, 1001), 4, 1000), RISK, 0, Due.failed(2), 62);
        asked(terms(ferryOf(TRUCK, 5, 100000), 4, 1000), RISK, 0, Due.failed(2), 62);
    }

    private static void gasFailsBy3BehindThat() {
        Due.sentence("GAS: ABOVE of w; FAILS by 3 behind that, if it is odd");
        asked(ferryOf(GAS, 5, 0), RISK, 0, 0, 82, 62, 2);
        asked(ferryOf(GAS, 5, 0), RISK, 1, Due.failed(3), 82, 62, 2);
        asked(ferryOf(GAS, 5, 0), RISK, 8, 8, 82, 62, 2);
        asked(ferryOf(GAS, 5, 0), RISK, 9, Due.failed(3), 82, 62, 2);
        asked(ferryOf(GAS, 5, 0), RISK, 11, Due.failed(1), 82, 62, 2);
        asked(ferryOf(GAS, 5, 1), RISK, 1, Due.failed(2), 82, 62);
    }

    private static void mixedTakes3() {
        Due.sentence("MIXED: ABOVE of w; 50, if that FAILS by 3");
        asked(ferryOf(MIXED, 5, 0), RISK, 9, 50, 92, 82, 62, 2);
        asked(ferryOf(MIXED, 5, 0), RISK, 8, 8, 92, 82, 62, 2);
        asked(ferryOf(MIXED, 5, 0), RISK, 10, Due.failed(1), 92, 82, 62, 2);
        asked(ferryOf(MIXED, 5, 1), RISK, 9, Due.failed(2), 92, 82, 62);
        FerryDecks mixed = ferryOf(MIXED, 5, 0);
        mixed.ask(0, RISK, 9);
        Due.is("one that is taken is no FAILURE", mixed.count(3), 0);
    }

    private static void vansLatterLashIsTold() {
        Due.sentence("VAN: ABOVE of n, then ABOVE of 1; the latter is told");
        FerryDecks van = ferryOf(VAN, 5, 0);
        asked(van, LASH, 0, 1, 23, 3, 3);
        asked(van, LASH, -1, 1, 23, 3, 3);
        asked(van, LASH, 8, 10, 23, 3, 3);
        Due.is("CHAINS", van.told(0, 3), 10);
    }

    private static void gasChainsAboveT5() {
        Due.sentence("GAS: FAILS by 4, if CHAINS are above T5 (ABOVE is not asked then); else ABOVE of n");
        FerryDecks gas = terms(ferryOf(GAS, 5, 0), 5, 1000);
        asked(gas, LASH, 500, 1000, 83, 73, 3);
        asked(gas, LASH, 0, 1000, 83, 73, 3);
        terms(gas, 5, 999);
        asked(gas, LASH, 0, Due.failed(4), 83);
        asked(gas, LASH, -500, Due.failed(4), 83);
        Due.is("CHAINS stay", gas.told(0, 3), 1000);
        FerryDecks below = ferryOf(GAS, 5, 0);
        asked(below, LASH, -3, -6, 83, 73, 3);
        asked(below, LASH, 3, 0, 83, 73, 3);
        asked(below, LASH, 3, 6, 83, 73, 3);
        asked(below, LASH, -3, Due.failed(4), 83);
    }

    private static void mixedTakes4() {
        Due.sentence("MIXED: ABOVE of n; if that FAILS by 4: CHAINS become 0, and it is ABOVE of n once more");
        FerryDecks mixed = terms(ferryOf(MIXED, 5, 0), 5, 6);
        asked(mixed, LASH, 3, 6, 93, 83, 73, 3);
        asked(mixed, LASH, 1, 8, 93, 83, 73, 3);
        asked(mixed, LASH, 1, 2, 93, 83, 83, 73, 3);
        Due.is("CHAINS from 0 on", mixed.told(0, 3), 2);
        terms(mixed, 5, 0);
        asked(mixed, LASH, 0, 0, 93, 83, 83, 73, 3);
        asked(mixed, LASH, 0, 0, 93, 83, 73, 3);
        Due.is("one that is taken is no FAILURE", mixed.count(3), 0);
    }

    private static void marks() {
        Due.sentence("MARK: SIZE % 10; CAMPER and LOAD % 7; SHOW twice ABOVE; GAS and 5");
        asked(ferryOf(TANKER, 20, 6), MARK, 0, 0, 4);
        asked(ferryOf(HOME, 19, 13), MARK, 0, 15, 34, 4);
        asked(ferryOf(SHOW, 19, 13), MARK, 0, 30, 54, 34, 4);
        asked(ferryOf(SHOW, 20, 14), MARK, 0, 0, 54, 34, 4);
        asked(ferryOf(GAS, 20, 6), MARK, 0, 5, 84, 4);
        asked(ferryOf(MIXED, 19, 6), MARK, 0, 14, 84, 4);
    }

    private static void hookedAre() {
        Due.sentence("HOOKED are CAMPER and those of it, TANKER and those of it");
        for (int kind = CAR; kind <= MIXED; kind++) {
            boolean hooked = kind >= CAMPER && kind != TRUCK;
            FerryDecks ferry = ferryOf(kind, 10, 0);
            Due.is("pull() of kind " + kind, ferry.pull(0, 1), hooked ? 1 : FerryDecks.CAST);
            Due.is("PULL of kind " + kind, ferry.ask(0, PULL, 1) == Due.LONG_CAST ? 0 : 1, hooked ? 1 : 0);
            Due.is("HOOK of kind " + kind, ferry.ask(0, HOOK, 1) == Due.LONG_CAST ? 0 : 1, hooked ? 1 : 0);
        }
    }

    private static void showHasItsOwnPull() {
        Due.sentence("SHOW has its own: the one that is lent, of n + 1");
        FerryDecks show = terms(ferryOf(SHOW, 12, 3), 6, 1000);
        asked(show, PULL, 0, 1003 + 10, 55, 5, 56, 36, 54, 34, 4);
        asked(show, PULL, -1, 10, 55, 5, 56, 36, 54, 34, 4);
        asked(show, PULL, -2, 10 - 1003, 55, 5, 56, 36, 54, 34, 4);
        asked(ferryOf(HOME, 12, 3), PULL, 0, 5, 5, 36, 34, 4);
    }

    private static void mixedsHookIsAskedTwice() {
        Due.sentence("MIXED: ABOVE, and ABOVE once more (asked twice)");
        asked(ferryOf(MIXED, 12, 999), HOOK, 0, 0, 96, 76, 76);
        asked(ferryOf(MIXED, 12, 1999), HOOK, 0, 2, 96, 76, 76);
        asked(ferryOf(MIXED, 12, 100000), HOOK, 0, 200, 96, 76, 76);
        asked(ferryOf(GAS, 12, 100000), HOOK, 0, 100, 76);
    }

    private static void eachBodyIsWrittenAheadOfWhatItDoes() {
        Due.sentence("Each BODY that begins is written down, ahead of what it does");
        asked(ferryOf(CAR, 5, 0), RISK, 10, Due.failed(1), 2);
        asked(ferryOf(SHOW, 5, 0), LENGTH, 0, 6, 40, 20, 0);
        asked(ferryOf(SHOW, 5, 0), PULL, 0, 13, 55, 5, 56, 36, 54, 34, 4);
    }

    private static void traceIsOfTheLatestAct() {
        Due.sentence("THE TRACE, of the latest act (ask(), board(), pull() that are not BAD, STATE)");
        FerryDecks ferry = ferryOf(HOME, 5, 0);
        ferry.deck(0, 6);
        ferry.ask(0, LENGTH, 0);
        Due.trace("ask()", ferry, 40, 20, 0);
        ferry.board(0, 1, 0, 0);
        Due.trace("board() that LACKs", ferry, 42, 22, 2, 40, 20, 0);
        ferry.pull(0, 0);
        Due.trace("pull()", ferry, 5, 36, 34, 4);
        ferry.board(0, 0, 0, 10);
        ferry.ask(1, LENGTH, 0);
        ferry.ask(0, 7, 0);
        ferry.pull(1, 0);
        Due.trace("BAD", ferry, 5, 36, 34, 4);
        ferry.board(0, 0, 0, 0);
        Due.trace("board()", ferry, 42, 22, 2, 40, 20, 0, 31, 11, 1, 40, 20, 0);
        ferry.board(0, 0, 0, 0);
        Due.trace("STATE", ferry, 42, 22, 2, 40, 20, 0, 31, 11, 1, 40, 20, 0);
        ferry.leave(0);
        Due.trace("leave() is no act", ferry, 42, 22, 2, 40, 20, 0, 31, 11, 1, 40, 20, 0);
    }

    /** No act has more than 19 entries, so of the 400 only that none is lost or left can be seen here. */
    private static void traceHasFewEntries() {
        Due.sentence("400 entries at most");
        FerryDecks ferry = ferryOf(SHOW, 5, 0);
        ferry.deck(0, 10);
        for (int i = 0; i < 30; i++) {
            ferry.board(0, 0, 0, 0);
            ferry.leave(0);
        }
        Due.trace("30 of the longest acts", ferry, 42, 22, 2, 40, 20, 0,
                51, 31, 11, 1, 40, 20, 0, 31, 11, 1, 40, 20, 0);
        for (int i : new int[] {19, 20, 398, 399, 400, 401}) {
            Due.is("trace(" + i + ")", ferry.trace(i), FerryDecks.BAD);
        }
    }

    private static void traceOfCastIsEmpty() {
        Due.sentence("Of an act that ended with CAST it is empty");
        for (int kind : new int[] {CAR, VAN, TRUCK}) {
            FerryDecks ferry = ferryOf(kind, 5, 0);
            ferry.ask(0, LENGTH, 0);
            Due.is("trace(0) of an ask()", ferry.trace(0) >= 0 ? 1 : 0, 1);
            asked(ferry, PULL, 0, Due.LONG_CAST);
            ferry.ask(0, LENGTH, 0);
            asked(ferry, HOOK, 0, Due.LONG_CAST);
            ferry.ask(0, LENGTH, 0);
            Due.is("pull()", ferry.pull(0, 0), FerryDecks.CAST);
            Due.trace("pull()", ferry);
        }
    }

    private static void decksFrom0To2() {
        Due.sentence("DECKS 0 .. 2");
        FerryDecks ferry = ferryOf(CAR, 5, 0);
        for (int d : new int[] {-1, 3}) {
            Due.is("deck(" + d + ")", ferry.deck(d, 10), FerryDecks.BAD);
            Due.is("on(" + d + ")", ferry.on(d, 0), FerryDecks.BAD);
            Due.is("board() on " + d, ferry.board(0, d, 0, 0), FerryDecks.BAD);
        }
        for (int d = 0; d <= 2; d++) {
            Due.is("deck(" + d + ")", ferry.deck(d, 10 + d), 0);
            Due.is("on(" + d + ")", ferry.on(d, 0), 10 + d);
            Due.is("board() on " + d, ferry.board(0, d, 0, 0), 5 + d);
            Due.is("leave() from " + d, ferry.leave(0), 10 + d);
        }
    }

    private static void decksHaveNoMetresAtFirst() {
        Due.sentence("DECKS have METRES (0 at first)");
        FerryDecks ferry = ferryOf(CAR, 1, 0);
        for (int d = 0; d <= 2; d++) {
            Due.is("METRES of " + d, ferry.on(d, 0), 0);
            Due.is("the least CAR on " + d, ferry.board(0, d, 0, 0), FerryDecks.LACK);
        }
    }

    private static void lengthAsItWasToldWhenTheyCame() {
        Due.sentence("those on it take LENGTH as it was told when they came");
        FerryDecks ferry = terms(ferryOf(HOME, 5, 0), 0, 4);
        ferry.deck(0, 30);
        Due.is("it comes", ferry.board(0, 0, 0, 0), 20);
        terms(ferry, 0, 1000);
        Due.is("LENGTH now", ferry.ask(0, LENGTH, 0), 1006);
        Due.is("it takes", ferry.told(0, 5), 10);
        Due.is("left", ferry.on(0, 1), 20);
        Due.is("METRES enough", ferry.deck(0, 10), 30);
        Due.is("one too few", ferry.deck(0, 9), FerryDecks.LACK);
        terms(ferry, 0, 0);
        Due.is("it leaves", ferry.leave(0), 10);
        Due.is("it comes as it is now", ferry.board(0, 0, 0, 0), 4);
        Due.is("it takes now", ferry.told(0, 5), 6);
    }

    private static void ashoreAtFirst() {
        Due.sentence("A VEHICLE is ASHORE (at first), or on a DECK");
        FerryDecks ferry = ferryOf(CAR, 5, 0);
        Due.is("its DECK", ferry.told(0, 4), -1);
        Due.is("its METRES", ferry.told(0, 5), 0);
        Due.is("leave()", ferry.leave(0), FerryDecks.STATE);
        ferry.deck(2, 5);
        ferry.board(0, 2, 0, 0);
        Due.is("then", ferry.told(0, 4), 2);
    }
}
