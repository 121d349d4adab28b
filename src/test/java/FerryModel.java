import java.util.ArrayList;
import java.util.List;

/**
 * The document once more, by Java's own means: kinds are subclasses, ABOVE is super, a FAILURE
 * is an exception, what is lent is a default method. Unlike the program in every way but the
 * answers, so that a slip in one of them shows.
 */
final class FerryModel {
    private static final long LEAST = Long.MIN_VALUE;

    private final int[] terms = new int[8];
    private final int[] metres = new int[3];
    private final List<Vehicle> vehicles = new ArrayList<>();
    private final List<Integer> written = new ArrayList<>();
    private int acts;
    private int failures;
    private int latestRisk;
    private int latestPull;
    private long till;

    private static final class Failure extends RuntimeException {
        private static final long serialVersionUID = 1L;
        final int number;

        Failure(int number) {
            super(null, null, false, false);
            this.number = number;
        }
    }

    private interface Hooked {
        void begins(int entry);

        int hook();

        int mark();

        default int pull(int n) {
            begins(5);
            int hook = hook();
            return hook * n + mark();
        }
    }

    private class Vehicle {
        int kind;
        int size;
        int load;
        int chains;
        int deck = -1;
        int takes;

        public void begins(int entry) {
            if (written.size() < 400) {
                written.add(entry);
            }
        }

        int length() {
            begins(0);
            return size;
        }

        int fee(int d) {
            begins(1);
            return terms[1] + d * terms[2];
        }

        int risk(int w) {
            begins(2);
            if (w > 9) {
                throw new Failure(1);
            }
            return w;
        }

        int lash(int n) {
            begins(3);
            chains += n;
            return chains;
        }

        public int mark() {
            begins(4);
            return size % 10;
        }
    }

    private class Car extends Vehicle {
        @Override
        int fee(int d) {
            begins(11);
            int fee = super.fee(d) - terms[3];
            return fee < 0 ? 0 : fee;
        }
    }

    private class Van extends Car {
        @Override
        int length() {
            begins(20);
            return super.length() + 1;
        }

        @Override
        int risk(int w) {
            begins(22);
            return super.risk(w + 2);
        }

        @Override
        int lash(int n) {
            begins(23);
            super.lash(n);
            return super.lash(1);
        }
    }

    private class Camper extends Van implements Hooked {
        @Override
        int fee(int d) {
            begins(31);
            int fee = super.fee(d);
            return fee + length();
        }

        @Override
        public int mark() {
            begins(34);
            return super.mark() + load % 7;
        }

        @Override
        public int hook() {
            begins(36);
            return 3;
        }
    }

    private class Home extends Camper {
        @Override
        int length() {
            begins(40);
            return super.length() + terms[0];
        }

        @Override
        int risk(int w) {
            begins(42);
            try {
                return super.risk(w);
            } catch (Failure failure) {
                if (failure.number != 1) {
                    throw failure;
                }
                return 20;
            }
        }

        @Override
        int lash(int n) {
            begins(43);
            return super.lash(n / 2);
        }
    }

    private final class Show extends Home {
        @Override
        int fee(int d) {
            begins(51);
            int fee = super.fee(d);
            return fee + super.fee(0);
        }

        @Override
        public int mark() {
            begins(54);
            return super.mark() * 2;
        }

        @Override
        public int pull(int n) {
            begins(55);
            return super.pull(n + 1);
        }

        @Override
        public int hook() {
            begins(56);
            return super.hook() + terms[6];
        }
    }

    private class Truck extends Vehicle {
        @Override
        int length() {
            begins(60);
            return super.length() + 2;
        }

        @Override
        int risk(int w) {
            begins(62);
            if (load > terms[4]) {
                throw new Failure(2);
            }
            return super.risk(w);
        }
    }

    private class Tanker extends Truck implements Hooked {
        @Override
        int fee(int d) {
            begins(71);
            return super.fee(d) * 2;
        }

        @Override
        int lash(int n) {
            begins(73);
            return super.lash(n + n);
        }

        @Override
        public int hook() {
            begins(76);
            return load / 1000;
        }
    }

    private class Gas extends Tanker {
        @Override
        int risk(int w) {
            begins(82);
            int risk = super.risk(w);
            if ((risk & 1) == 1) {
                throw new Failure(3);
            }
            return risk;
        }

        @Override
        int lash(int n) {
            begins(83);
            if (chains > terms[5]) {
                throw new Failure(4);
            }
            return super.lash(n);
        }

        @Override
        public int mark() {
            begins(84);
            return super.mark() + 5;
        }
    }

    private final class Mixed extends Gas {
        @Override
        int length() {
            begins(90);
            int length = super.length() - 1;
            return length < 1 ? 1 : length;
        }

        @Override
        int fee(int d) {
            begins(91);
            int fee = super.fee(d);
            return fee + risk(0);
        }

        @Override
        int risk(int w) {
            begins(92);
            try {
                return super.risk(w);
            } catch (Failure failure) {
                if (failure.number != 3) {
                    throw failure;
                }
                return 50;
            }
        }

        @Override
        int lash(int n) {
            begins(93);
            try {
                return super.lash(n);
            } catch (Failure failure) {
                if (failure.number != 4) {
                    throw failure;
                }
                chains = 0;
                return super.lash(n);
            }
        }

        @Override
        public int hook() {
            begins(96);
            int hook = super.hook();
            return hook + super.hook();
        }
    }

    int term(int k, int v) {
        if (k < 0 || k > 7 || v < 0 || v > 1000) {
            return -1;
        }
        int before = terms[k];
        terms[k] = v;
        return before;
    }

    int deck(int d, int many) {
        if (d < 0 || d > 2 || many < 0 || many > 10000) {
            return -1;
        }
        if (metres[d] - left(d) > many) {
            return -4;
        }
        int before = metres[d];
        metres[d] = many;
        return before;
    }

    int vehicle(int kind, int size, int load) {
        if (kind < 1 || kind > 9 || size < 1 || size > 100 || load < 0 || load > 100000) {
            return -1;
        }
        if (vehicles.size() == 70) {
            return -2;
        }
        Vehicle made = switch (kind) {
            case 1 -> new Car();
            case 2 -> new Van();
            case 3 -> new Camper();
            case 4 -> new Home();
            case 5 -> new Show();
            case 6 -> new Truck();
            case 7 -> new Tanker();
            case 8 -> new Gas();
            default -> new Mixed();
        };
        made.kind = kind;
        made.size = size;
        made.load = load;
        vehicles.add(made);
        return vehicles.size() - 1;
    }

    long ask(int vehicle, int member, int n) {
        if (none(vehicle) || member < 0 || member > 6) {
            return LEAST;
        }
        begin();
        Vehicle asked = vehicles.get(vehicle);
        try {
            return switch (member) {
                case 0 -> asked.length();
                case 1 -> asked.fee(n);
                case 2 -> asked.risk(n);
                case 3 -> asked.lash(n);
                case 4 -> asked.mark();
                case 5 -> ((Hooked) asked).pull(n);
                default -> ((Hooked) asked).hook();
            };
        } catch (ClassCastException cast) {
            return LEAST + 1;
        } catch (Failure failure) {
            failures++;
            return LEAST + 10 + failure.number;
        }
    }

    int trace(int i) {
        return i >= 0 && i < written.size() ? written.get(i) : -1;
    }

    int board(int vehicle, int deck, int w, int d) {
        if (none(vehicle) || deck < 0 || deck > 2 || d < 0 || d > 9) {
            return -1;
        }
        Vehicle coming = vehicles.get(vehicle);
        if (coming.deck >= 0) {
            return -3;
        }
        begin();
        try {
            latestRisk = coming.risk(w);
            int length = coming.length();
            if (length > left(deck)) {
                return -4;
            }
            till += coming.fee(d);
            coming.deck = deck;
            coming.takes = length;
            return left(deck);
        } catch (Failure failure) {
            failures++;
            return -10 - failure.number;
        }
    }

    int leave(int vehicle) {
        if (none(vehicle)) {
            return -1;
        }
        Vehicle leaving = vehicles.get(vehicle);
        int deck = leaving.deck;
        if (deck < 0) {
            return -3;
        }
        leaving.deck = -1;
        leaving.takes = 0;
        leaving.chains = 0;
        return left(deck);
    }

    int risk() {
        return latestRisk;
    }

    int pull(int vehicle, int n) {
        if (none(vehicle)) {
            return -1;
        }
        begin();
        if (vehicles.get(vehicle) instanceof Hooked hooked) {
            latestPull = hooked.pull(n);
            return 1;
        }
        return -5;
    }

    int pulled() {
        return latestPull;
    }

    long told(int vehicle, int what) {
        if (none(vehicle) || what < 0 || what > 5) {
            return LEAST;
        }
        Vehicle v = vehicles.get(vehicle);
        return new int[] {v.kind, v.size, v.load, v.chains, v.deck, v.takes}[what];
    }

    int on(int deck, int what) {
        if (deck < 0 || deck > 2 || what < 0 || what > 2) {
            return -1;
        }
        int many = (int) vehicles.stream().filter(v -> v.deck == deck).count();
        return new int[] {metres[deck], left(deck), many}[what];
    }

    long till() {
        return till;
    }

    int count(int what) {
        if (what < 0 || what > 3) {
            return -1;
        }
        return new int[] {vehicles.size(), written.size(), acts, failures}[what];
    }

    private boolean none(int vehicle) {
        return vehicle < 0 || vehicle >= vehicles.size();
    }

    private void begin() {
        acts++;
        written.clear();
    }

    private int left(int deck) {
        return metres[deck] - vehicles.stream().filter(v -> v.deck == deck).mapToInt(v -> v.takes).sum();
    }
}
