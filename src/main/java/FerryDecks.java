/** A ferry: vehicles of ten kinds, their members, and the three decks that they come on. */
public final class FerryDecks {
    public static final int BAD = -1, FULL = -2, STATE = -3, LACK = -4, CAST = -5;

    private static final long LEAST = -9223372036854775808L;
    private static final long LONG_BAD = LEAST;
    private static final long LONG_CAST = LEAST + 1;
    private static final long LONG_FAILED = LEAST + 10;
    private static final int BOARD_FAILED = -10;

    private static final int MOST_VEHICLES = 70;
    private static final int MOST_SIZE = 100;
    private static final int MOST_LOAD = 100000;
    private static final int DECKS = 3;
    private static final int MOST_METRES = 10000;
    private static final int MOST_DAYS = 9;
    private static final int TERMS = 8;
    private static final int MOST_TERM = 1000;
    private static final int MOST_ENTRIES = 400;
    private static final int ASHORE = -1;

    private static final int VEHICLE = 0, CAR = 1, VAN = 2, CAMPER = 3, HOME = 4;
    private static final int SHOW = 5, TRUCK = 6, TANKER = 7, GAS = 8, MIXED = 9;
    private static final int KINDS = 10;

    private static final int LENGTH = 0, FEE = 1, RISK = 2, LASH = 3, MARK = 4, PULL = 5, HOOK = 6;
    private static final int MEMBERS = 7;

    private static final int NONE = -1;

    /** At a kind: the one just above it. */
    private static final int[] ABOVE = {
        NONE, VEHICLE, CAR, VAN, CAMPER, HOME, VEHICLE, TRUCK, TANKER, GAS
    };

    /**
     * At KINDS * member + kind: the kind whose body that is, its own or the nearest above.
     * The PULL that is lent stands as VEHICLE's, since it is written down as 5; those that
     * it is not lent to have NONE.
     */
    private static final int[] OWNERS = {
        VEHICLE, VEHICLE, VAN, VAN, HOME, HOME, TRUCK, TRUCK, TRUCK, MIXED, // LENGTH
        VEHICLE, CAR, CAR, CAMPER, CAMPER, SHOW, VEHICLE, TANKER, TANKER, MIXED, // FEE
        VEHICLE, VEHICLE, VAN, VAN, HOME, HOME, TRUCK, TRUCK, GAS, MIXED, // RISK
        VEHICLE, VEHICLE, VAN, VAN, HOME, HOME, VEHICLE, TANKER, GAS, MIXED, // LASH
        VEHICLE, VEHICLE, VEHICLE, CAMPER, CAMPER, SHOW, VEHICLE, VEHICLE, GAS, GAS, // MARK
        NONE, NONE, NONE, VEHICLE, VEHICLE, SHOW, NONE, VEHICLE, VEHICLE, VEHICLE, // PULL
        NONE, NONE, NONE, CAMPER, CAMPER, SHOW, NONE, TANKER, TANKER, MIXED // HOOK
    };

    private final Vehicle[] vehicles;
    private int vehicleCount;
    private final Deck[] decks;
    private final Bodies bodies;
    private int acts;
    private int failedActs;
    private int latestRisk;
    private int latestPull;
    private long theTill;

    public FerryDecks() {
        vehicles = new Vehicle[MOST_VEHICLES];
        decks = new Deck[DECKS];
        for (int d = 0; d < DECKS; d++) {
            decks[d] = new Deck();
        }
        bodies = new Bodies();
    }

    public int term(int k, int v) {
        if (!within(k, 0, TERMS - 1) || !within(v, 0, MOST_TERM)) {
            return BAD;
        }
        int before = bodies.terms[k];
        bodies.terms[k] = v;
        return before;
    }

    public int deck(int d, int metres) {
        Deck changed = deckAt(d);
        if (changed == null || !within(metres, 0, MOST_METRES)) {
            return BAD;
        }
        if (changed.taken > metres) {
            return LACK;
        }
        int before = changed.metres;
        changed.metres = metres;
        return before;
    }

    public int vehicle(int kind, int size, int load) {
        if (!within(kind, CAR, MIXED) || !within(size, 1, MOST_SIZE) || !within(load, 0, MOST_LOAD)) {
            return BAD;
        }
        if (vehicleCount >= MOST_VEHICLES) {
            return FULL;
        }
        int number = vehicleCount;
        vehicles[number] = new Vehicle(kind, size, load);
        vehicleCount++;
        return number;
    }

    public long ask(int vehicle, int member, int n) {
        Vehicle asked = vehicleAt(vehicle);
        if (asked == null || !within(member, 0, MEMBERS - 1)) {
            return LONG_BAD;
        }
        beginAct();
        if (ownerOf(member, asked.kind) == NONE) {
            return LONG_CAST;
        }
        int answer = bodies.answer(asked, member, n);
        return bodies.failed() ? LONG_FAILED + endByFailure() : answer;
    }

    public int trace(int i) {
        return bodies.written.has(i) ? bodies.written.entries[i] : BAD;
    }

    public int board(int vehicle, int deck, int w, int d) {
        Vehicle coming = vehicleAt(vehicle);
        Deck onto = deckAt(deck);
        if (coming == null || onto == null || !within(d, 0, MOST_DAYS)) {
            return BAD;
        }
        if (coming.deckNumber != ASHORE) {
            return STATE;
        }
        beginAct();
        int riskTold = bodies.answer(coming, RISK, w);
        if (bodies.failed()) {
            return BOARD_FAILED - endByFailure();
        }
        latestRisk = riskTold;
        int length = bodies.answer(coming, LENGTH, 0);
        if (length > onto.left()) {
            return LACK;
        }
        int fee = bodies.answer(coming, FEE, d);
        if (bodies.failed()) {
            return BOARD_FAILED - endByFailure();
        }
        theTill += fee;
        coming.deckNumber = deck;
        coming.metres = length;
        onto.receive(length);
        return onto.left();
    }

    public int leave(int vehicle) {
        Vehicle leaving = vehicleAt(vehicle);
        if (leaving == null) {
            return BAD;
        }
        Deck from = deckAt(leaving.deckNumber);
        if (from == null) {
            return STATE;
        }
        from.release(leaving.metres);
        leaving.goAshore();
        return from.left();
    }

    public int risk() {
        return latestRisk;
    }

    public int pull(int vehicle, int n) {
        Vehicle pulling = vehicleAt(vehicle);
        if (pulling == null) {
            return BAD;
        }
        beginAct();
        if (ownerOf(PULL, pulling.kind) == NONE) {
            return CAST;
        }
        latestPull = bodies.answer(pulling, PULL, n);
        return 1;
    }

    public int pulled() {
        return latestPull;
    }

    public long told(int vehicle, int what) {
        Vehicle known = vehicleAt(vehicle);
        if (known == null) {
            return LONG_BAD;
        }
        switch (what) {
            case 0: return known.kind;
            case 1: return known.size;
            case 2: return known.load;
            case 3: return known.chains;
            case 4: return known.deckNumber;
            case 5: return known.metres;
            default: return LONG_BAD;
        }
    }

    public int on(int deck, int what) {
        Deck known = deckAt(deck);
        if (known == null) {
            return BAD;
        }
        switch (what) {
            case 0: return known.metres;
            case 1: return known.left();
            case 2: return known.vehiclesOn;
            default: return BAD;
        }
    }

    public long till() {
        return theTill;
    }

    public int count(int what) {
        switch (what) {
            case 0: return vehicleCount;
            case 1: return bodies.written.size;
            case 2: return acts;
            case 3: return failedActs;
            default: return BAD;
        }
    }

    private static boolean within(int value, int least, int most) {
        return value >= least && value <= most;
    }

    private static int ownerOf(int member, int kind) {
        if (!within(member, 0, MEMBERS - 1) || !within(kind, 0, KINDS - 1)) {
            return NONE;
        }
        return OWNERS[KINDS * member + kind];
    }

    /** The vehicle of that number, or null. */
    private Vehicle vehicleAt(int number) {
        return within(number, 0, vehicleCount - 1) ? vehicles[number] : null;
    }

    /** The deck of that number, or null (of ASHORE, too). */
    private Deck deckAt(int number) {
        return within(number, 0, DECKS - 1) ? decks[number] : null;
    }

    private void beginAct() {
        acts++;
        bodies.begin();
    }

    /** Counts the act among the failed ones, and tells the number that it failed by. */
    private int endByFailure() {
        failedActs++;
        return bodies.failure;
    }

    private static final class Vehicle {
        final int kind;
        final int size;
        final int load;
        int chains;
        int deckNumber;
        int metres;

        Vehicle(int kind, int size, int load) {
            this.kind = kind;
            this.size = size;
            this.load = load;
            this.deckNumber = ASHORE;
        }

        void goAshore() {
            chains = 0;
            deckNumber = ASHORE;
            metres = 0;
        }
    }

    private static final class Deck {
        int metres;
        int taken;
        int vehiclesOn;

        int left() {
            return metres - taken;
        }

        void receive(int length) {
            taken += length;
            vehiclesOn++;
        }

        void release(int length) {
            taken -= length;
            vehiclesOn--;
        }
    }

    private static final class Trace {
        final int[] entries = new int[MOST_ENTRIES];
        int size;

        boolean has(int i) {
            return within(i, 0, size - 1);
        }

        void write(int entry) {
            if (size < MOST_ENTRIES) {
                entries[size] = entry;
                size++;
            }
        }
    }

    /**
     * The bodies of all members. One that fails sets the failure and answers 0; while it is set
     * no body begins, so those that asked come to their end without a test of their own, and
     * what they make of the 0 is not used.
     */
    private static final class Bodies {
        /** Far above what any member needs; the kinds and members go five bodies deep at most. */
        private static final int DEEPEST = 20;

        private static final int TOO_WINDY = 1, TOO_HEAVY = 2, ODD = 3, TOO_MANY_CHAINS = 4;

        final int[] terms = new int[TERMS];
        final Trace written = new Trace();
        int failure;

        void begin() {
            written.size = 0;
            failure = 0;
        }

        boolean failed() {
            return failure != 0;
        }

        int answer(Vehicle v, int member, int n) {
            return start(v, v.kind, member, n, 0);
        }

        private int start(Vehicle v, int kind, int member, int n, int depth) {
            int owner = ownerOf(member, kind);
            if (failed() || owner == NONE || depth > DEEPEST) {
                return 0;
            }
            written.write(10 * owner + member);
            switch (member) {
                case LENGTH: return lengthBody(v, owner, depth);
                case FEE: return feeBody(v, owner, n, depth);
                case RISK: return riskBody(v, owner, n, depth);
                case LASH: return lashBody(v, owner, n, depth);
                case MARK: return markBody(v, owner, depth);
                case PULL: return pullBody(v, owner, n, depth);
                default: return hookBody(v, owner, depth);
            }
        }

        /** The body of the kind just above, of the same vehicle. */
        private int askAbove(Vehicle v, int kind, int member, int n, int depth) {
            return within(kind, 0, KINDS - 1) ? start(v, ABOVE[kind], member, n, depth + 1) : 0;
        }

        /** The body that the vehicle's own kind has, whichever body asks. */
        private int askVehicle(Vehicle v, int member, int n, int depth) {
            return start(v, v.kind, member, n, depth + 1);
        }

        private int fail(int number) {
            failure = number;
            return 0;
        }

        /** True, and the failure is over, if it is the one of that number. */
        private boolean takes(int number) {
            if (failure != number) {
                return false;
            }
            failure = 0;
            return true;
        }

        private int lengthBody(Vehicle v, int kind, int depth) {
            if (kind == VEHICLE) {
                return v.size;
            }
            int above = askAbove(v, kind, LENGTH, 0, depth);
            switch (kind) {
                case VAN: return above + 1;
                case HOME: return above + terms[0];
                case TRUCK: return above + 2;
                default: return Math.max(above - 1, 1); // MIXED
            }
        }

        private int feeBody(Vehicle v, int kind, int d, int depth) {
            if (kind == VEHICLE) {
                return terms[1] + d * terms[2];
            }
            int above = askAbove(v, kind, FEE, d, depth);
            switch (kind) {
                case CAR: return Math.max(above - terms[3], 0);
                case CAMPER: return above + askVehicle(v, LENGTH, 0, depth);
                case SHOW: return above + askAbove(v, kind, FEE, 0, depth);
                case TANKER: return 2 * above;
                default: return above + askVehicle(v, RISK, 0, depth); // MIXED
            }
        }

        private int riskBody(Vehicle v, int kind, int w, int depth) {
            if (kind == VEHICLE) {
                return w > 9 ? fail(TOO_WINDY) : w;
            }
            if (kind == TRUCK && v.load > terms[4]) {
                return fail(TOO_HEAVY);
            }
            int above = askAbove(v, kind, RISK, kind == VAN ? w + 2 : w, depth);
            switch (kind) {
                case HOME: return takes(TOO_WINDY) ? 20 : above;
                case GAS: return !failed() && above % 2 != 0 ? fail(ODD) : above;
                case MIXED: return takes(ODD) ? 50 : above;
                default: return above; // VAN, TRUCK
            }
        }

        private int lashBody(Vehicle v, int kind, int n, int depth) {
            switch (kind) {
                case VEHICLE:
                    v.chains += n;
                    return v.chains;
                case VAN:
                    askAbove(v, kind, LASH, n, depth);
                    return askAbove(v, kind, LASH, 1, depth);
                case HOME:
                    return askAbove(v, kind, LASH, n / 2, depth);
                case TANKER:
                    return askAbove(v, kind, LASH, n + n, depth);
                case GAS:
                    return v.chains > terms[5] ? fail(TOO_MANY_CHAINS) : askAbove(v, kind, LASH, n, depth);
                default:
                    return lashMixed(v, n, depth);
            }
        }

        private int lashMixed(Vehicle v, int n, int depth) {
            int chains = askAbove(v, MIXED, LASH, n, depth);
            if (!takes(TOO_MANY_CHAINS)) {
                return chains;
            }
            v.chains = 0;
            return askAbove(v, MIXED, LASH, n, depth);
        }

        private int markBody(Vehicle v, int kind, int depth) {
            if (kind == VEHICLE) {
                return v.size % 10;
            }
            int above = askAbove(v, kind, MARK, 0, depth);
            switch (kind) {
                case CAMPER: return above + v.load % 7;
                case SHOW: return 2 * above;
                default: return above + 5; // GAS
            }
        }

        private int pullBody(Vehicle v, int kind, int n, int depth) {
            if (kind == SHOW) {
                return askAbove(v, kind, PULL, n + 1, depth);
            }
            int hook = askVehicle(v, HOOK, 0, depth);
            return hook * n + askVehicle(v, MARK, 0, depth);
        }

        private int hookBody(Vehicle v, int kind, int depth) {
            switch (kind) {
                case CAMPER:
                    return 3;
                case SHOW:
                    return askAbove(v, kind, HOOK, 0, depth) + terms[6];
                case TANKER:
                    return v.load / 1000;
                default: // MIXED
                    return askAbove(v, kind, HOOK, 0, depth) + askAbove(v, kind, HOOK, 0, depth);
            }
        }
    }
}
