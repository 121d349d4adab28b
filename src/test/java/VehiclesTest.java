/** Promises 4 (vehicle) and 12 (told). */
public final class VehiclesTest {
    public static void main(String[] args) {
        made();
        refused();
        full();
        told();
        Due.end();
    }

    private static void made() {
        FerryDecks ferry = new FerryDecks();
        for (int kind = 1; kind <= 9; kind++) {
            Due.is("vehicle of " + kind, ferry.vehicle(kind, 10 + kind, 1000 * kind), kind - 1);
        }
        for (int v = 0; v < 9; v++) {
            Due.is("kind of " + v, ferry.told(v, 0), v + 1);
            Due.is("size of " + v, ferry.told(v, 1), 11 + v);
            Due.is("load of " + v, ferry.told(v, 2), 1000 * (v + 1));
            Due.is("chains of " + v, ferry.told(v, 3), 0);
            Due.is("deck of " + v, ferry.told(v, 4), -1);
            Due.is("metres of " + v, ferry.told(v, 5), 0);
        }
        Due.is("least size and load", ferry.vehicle(1, 1, 0), 9);
        Due.is("most size and load", ferry.vehicle(1, 100, 100000), 10);
        Due.is("most size", ferry.told(10, 1), 100);
        Due.is("most load", ferry.told(10, 2), 100000);
        Due.is("vehicles", ferry.count(0), 11);
        Due.is("vehicles are no acts", ferry.count(2), 0);
    }

    private static void refused() {
        FerryDecks ferry = new FerryDecks();
        int[] kinds = {0, 10, -1, Integer.MIN_VALUE, Integer.MAX_VALUE};
        for (int kind : kinds) {
            Due.is("no kind " + kind, ferry.vehicle(kind, 5, 5), FerryDecks.BAD);
        }
        int[] sizes = {0, 101, -1, Integer.MIN_VALUE, Integer.MAX_VALUE};
        for (int size : sizes) {
            Due.is("no size " + size, ferry.vehicle(1, size, 5), FerryDecks.BAD);
        }
        int[] loads = {-1, 100001, Integer.MIN_VALUE, Integer.MAX_VALUE};
        for (int load : loads) {
            Due.is("no load " + load, ferry.vehicle(1, 5, load), FerryDecks.BAD);
        }
        Due.is("none were made", ferry.count(0), 0);
    }

    private static void full() {
        FerryDecks ferry = new FerryDecks();
        for (int v = 0; v < 70; v++) {
            Due.is("vehicle " + v, ferry.vehicle(1 + v % 9, 1 + v, v), v);
        }
        Due.is("one more", ferry.vehicle(1, 1, 1), FerryDecks.FULL);
        Due.is("BAD ahead of FULL", ferry.vehicle(0, 1, 1), FerryDecks.BAD);
        Due.is("vehicles", ferry.count(0), 70);
        Due.is("the last's size", ferry.told(69, 1), 70);
        Due.is("none behind the last", ferry.told(70, 1), Due.LEAST);
        Due.is("the last, a TANKER, answers", ferry.ask(69, 0, 0), 72);
    }

    private static void told() {
        FerryDecks ferry = new FerryDecks();
        ferry.term(0, 6);
        ferry.deck(2, 50);
        ferry.vehicle(1, 9, 8);
        ferry.vehicle(4, 9, 8);
        ferry.ask(1, 3, 10);
        Due.is("board", ferry.board(1, 2, 0, 0), 34);
        ferry.term(0, 0);
        Due.is("chains", ferry.told(1, 3), 6);
        Due.is("deck", ferry.told(1, 4), 2);
        Due.is("metres as they were told when it came", ferry.told(1, 5), 16);
        Due.is("the other's chains", ferry.told(0, 3), 0);
        Due.is("the other's deck", ferry.told(0, 4), -1);
        Due.is("the other's metres", ferry.told(0, 5), 0);
        ferry.leave(1);
        Due.is("chains ashore", ferry.told(1, 3), 0);
        Due.is("deck ashore", ferry.told(1, 4), -1);
        Due.is("metres ashore", ferry.told(1, 5), 0);
        Due.is("what = -1", ferry.told(0, -1), Due.LEAST);
        Due.is("what = 6", ferry.told(0, 6), Due.LEAST);
        Due.is("vehicle -1", ferry.told(-1, 0), Due.LEAST);
        Due.is("vehicle 2", ferry.told(2, 0), Due.LEAST);
        Due.is("least vehicle", ferry.told(Integer.MIN_VALUE, 0), Due.LEAST);
        Due.is("most vehicle", ferry.told(Integer.MAX_VALUE, 0), Due.LEAST);
    }
}
