import java.util.Random;

/** Promises 1 to 15 in long runs of mixed calls, each answer held against FerryModel's. */
public final class ModelTest {
    private static final int RUNS = 6000;
    private static final int CALLS = 512;
    private static final int[] EDGES = {
        Integer.MIN_VALUE, Integer.MIN_VALUE + 1, -1000, -11, -3, -2, -1, 0, 1, 2, 7, 8, 9, 10, 11,
        70, 400, 1000, 1001, 10000, 10001, Integer.MAX_VALUE - 2, Integer.MAX_VALUE - 1, Integer.MAX_VALUE
    };

    private final Random random;
    private final FerryDecks ferry = new FerryDecks();
    private final FerryModel model = new FerryModel();
    private final int run;
    private final boolean crowded;
    private int calls;

    private ModelTest(int run) {
        this.run = run;
        this.random = new Random(run);
        this.crowded = run % 5 == 0;
    }

    public static void main(String[] args) {
        for (int run = 1; run <= RUNS; run++) {
            new ModelTest(run).play();
        }
        Due.end();
    }

    private void play() {
        while (calls < CALLS) {
            switch (random.nextInt(crowded ? 24 : 20)) {
                case 0 -> term(near(0, 7), near(0, random.nextBoolean() ? 20 : 1000));
                case 1 -> deck(near(0, 2), near(0, random.nextBoolean() ? 300 : 10000));
                case 2, 20, 21, 22, 23 -> vehicle(near(1, 9), near(1, 100), load());
                case 3, 4, 5, 6, 7, 8 -> ask(someVehicle(), near(0, 6), number());
                case 9, 10, 11 -> board(someVehicle(), near(0, 2), number(), near(0, 9));
                case 12, 13 -> leave(someVehicle());
                case 14, 15 -> pull(someVehicle(), number());
                case 16, 17 -> look();
                case 18 -> told(someVehicle(), near(0, 5));
                default -> trace(near(0, model.count(1)));
            }
        }
    }

    private int near(int least, int most) {
        if (random.nextInt(20) == 0) {
            return EDGES[random.nextInt(EDGES.length)];
        }
        return least + random.nextInt(most - least + 1);
    }

    private int number() {
        return random.nextInt(6) == 0 ? random.nextInt() : near(-6, 12);
    }

    private int load() {
        return near(0, random.nextInt(3) == 0 ? 100000 : random.nextBoolean() ? 1000 : 25);
    }

    private int someVehicle() {
        return near(0, Math.max(0, model.count(0) - (random.nextInt(15) == 0 ? 0 : 1)));
    }

    private void is(String call, long got, long want) {
        calls++;
        Due.is("run " + run + ": " + call, got, want);
    }

    private void term(int k, int v) {
        is("term(" + k + ", " + v + ")", ferry.term(k, v), model.term(k, v));
    }

    private void deck(int d, int metres) {
        is("deck(" + d + ", " + metres + ")", ferry.deck(d, metres), model.deck(d, metres));
    }

    private void vehicle(int kind, int size, int load) {
        is("vehicle(" + kind + ", " + size + ", " + load + ")",
                ferry.vehicle(kind, size, load), model.vehicle(kind, size, load));
    }

    private void ask(int vehicle, int member, int n) {
        is("ask(" + vehicle + ", " + member + ", " + n + ")",
                ferry.ask(vehicle, member, n), model.ask(vehicle, member, n));
        wholeTrace();
    }

    private void board(int vehicle, int deck, int w, int d) {
        is("board(" + vehicle + ", " + deck + ", " + w + ", " + d + ")",
                ferry.board(vehicle, deck, w, d), model.board(vehicle, deck, w, d));
        wholeTrace();
    }

    private void leave(int vehicle) {
        is("leave(" + vehicle + ")", ferry.leave(vehicle), model.leave(vehicle));
    }

    private void pull(int vehicle, int n) {
        is("pull(" + vehicle + ", " + n + ")", ferry.pull(vehicle, n), model.pull(vehicle, n));
        wholeTrace();
    }

    private void told(int vehicle, int what) {
        is("told(" + vehicle + ", " + what + ")", ferry.told(vehicle, what), model.told(vehicle, what));
    }

    private void trace(int i) {
        is("trace(" + i + ")", ferry.trace(i), model.trace(i));
    }

    private void wholeTrace() {
        boolean looked = random.nextInt(4) == 0;
        for (int i = 0; looked && i <= model.count(1) && calls < CALLS; i++) {
            trace(i);
        }
    }

    private void look() {
        int what = near(0, 3);
        int deck = near(0, 2);
        switch (random.nextInt(5)) {
            case 0 -> is("risk()", ferry.risk(), model.risk());
            case 1 -> is("pulled()", ferry.pulled(), model.pulled());
            case 2 -> is("till()", ferry.till(), model.till());
            case 3 -> is("count(" + what + ")", ferry.count(what), model.count(what));
            default -> is("on(" + deck + ", " + what + ")", ferry.on(deck, what), model.on(deck, what));
        }
    }
}
