import java.util.ArrayList;
import java.util.List;

/** The document's words taken one by one: tries every giving there is, with no short cut. */
final class Model {
    private static final class Car {
        int speed;
        int floor;
        int second;
        int least;
        int greatest;
        boolean asleep;
    }

    private static final class Call {
        int from;
        int to;
        int since;
        boolean open = true;
        boolean urgent;
        Car begunBy;
    }

    /** A giving: for each car its row, and of that what follows. */
    private final class Giving {
        final List<List<Integer>> rows = new ArrayList<>();
        final int[] pick = new int[calls.size()];
        final int[] set = new int[calls.size()];
        final int[] weight = new int[calls.size()];
        long sum;

        int carOf(int call) {
            for (int car = 0; car < rows.size(); car++) {
                if (rows.get(car).contains(call)) {
                    return car;
                }
            }
            return -1;
        }

        void reckon() {
            for (int c = 0; c < rows.size(); c++) {
                Car car = cars.get(c);
                int at = car.floor;
                int second = Math.max(time, car.second);
                for (int k : rows.get(c)) {
                    Call call = calls.get(k);
                    second += car.speed * Math.abs(at - call.from);
                    pick[k] = second - time;
                    second += 3 + car.speed * Math.abs(call.from - call.to);
                    set[k] = second - time;
                    second += 3;
                    at = call.to;
                    weight[k] = weightOf(call);
                    sum += (long) weight[k] * pick[k] + set[k];
                }
            }
        }

        boolean isBefore(Giving other) {
            if (sum != other.sum) {
                return sum < other.sum;
            }
            for (int k = 0; k < calls.size(); k++) {
                if (carOf(k) != other.carOf(k)) {
                    return carOf(k) < other.carOf(k);
                }
            }
            for (int c = 0; c < rows.size(); c++) {
                for (int k = 0; k < rows.get(c).size(); k++) {
                    int mine = rows.get(c).get(k);
                    int theirs = other.rows.get(c).get(k);
                    if (mine != theirs) {
                        return mine < theirs;
                    }
                }
            }
            return false;
        }
    }

    private final int floors;
    private final List<Car> cars = new ArrayList<>();
    private final List<Call> calls = new ArrayList<>();
    private int time;
    private Giving made;

    Model(int floors) {
        this.floors = floors < 2 ? 2 : floors > 60 ? 60 : floors;
    }

    private static void argument(boolean legal) {
        if (!legal) {
            throw new IllegalArgumentException();
        }
    }

    private static void state(boolean legal) {
        if (!legal) {
            throw new IllegalStateException();
        }
    }

    private static boolean in(int number, int least, int greatest) {
        return least <= number && number <= greatest;
    }

    private Car carAt(int car) {
        argument(in(car, 0, cars.size() - 1));
        return cars.get(car);
    }

    private Call openAt(int call) {
        argument(in(call, 0, calls.size() - 1) && calls.get(call).open);
        return calls.get(call);
    }

    int car(int floor, int speed) {
        argument(in(floor, 0, floors - 1) && in(speed, 1, 5));
        state(cars.size() < 4);
        Car car = new Car();
        car.speed = speed;
        car.floor = floor;
        car.second = time;
        car.greatest = floors - 1;
        cars.add(car);
        return cars.size() - 1;
    }

    void free(int car, int floor, int second) {
        Car it = carAt(car);
        argument(in(floor, 0, floors - 1) && in(second, 0, 100000));
        it.floor = floor;
        it.second = second;
    }

    void zone(int car, int least, int greatest) {
        Car it = carAt(car);
        argument(in(least, 0, floors - 1) && in(greatest, 0, floors - 1) && least <= greatest);
        it.least = least;
        it.greatest = greatest;
    }

    boolean sleep(int car, boolean on) {
        Car it = carAt(car);
        boolean was = it.asleep;
        it.asleep = on;
        return was;
    }

    int call(int from, int to) {
        argument(in(from, 0, floors - 1) && in(to, 0, floors - 1) && from != to);
        state(open() < 6 && calls.size() < 400);
        Call call = new Call();
        call.from = from;
        call.to = to;
        call.since = time;
        calls.add(call);
        return calls.size() - 1;
    }

    boolean urgent(int call, boolean on) {
        Call it = openAt(call);
        boolean was = it.urgent;
        it.urgent = on;
        return was;
    }

    private boolean inZone(Car car, Call call) {
        return in(call.from, car.least, car.greatest) && in(call.to, car.least, car.greatest);
    }

    boolean begin(int call, int car) {
        Call it = openAt(call);
        if (car == -1) {
            it.begunBy = null;
            return true;
        }
        Car by = carAt(car);
        for (Call other : calls) {
            if (other.open && other != it && other.begunBy == by) {
                return false;
            }
        }
        if (!inZone(by, it)) {
            return false;
        }
        it.begunBy = by;
        return true;
    }

    void done(int call) {
        openAt(call).open = false;
    }

    int pass(int n) {
        argument(in(n, 1, 1000) && time + n <= 100000);
        time += n;
        return time;
    }

    private List<Integer> carsOf(Call call) {
        List<Integer> awake = new ArrayList<>();
        List<Integer> asleep = new ArrayList<>();
        for (int c = 0; c < cars.size(); c++) {
            Car car = cars.get(c);
            boolean may = call.begunBy == null ? inZone(car, call) : call.begunBy == car && inZone(car, call);
            if (may) {
                (car.asleep ? asleep : awake).add(c);
            }
        }
        return awake.isEmpty() ? asleep : awake;
    }

    private int weightOf(Call call) {
        int weight = 1 + (time - call.since) / 30;
        return call.urgent ? 4 * weight : weight;
    }

    long give() {
        made = null;
        List<List<Integer>> rows = new ArrayList<>();
        for (int c = 0; c < cars.size(); c++) {
            rows.add(new ArrayList<>());
        }
        giveFrom(0, rows);
        return made.sum;
    }

    /** Puts each call from a number on into every place of every row, behind which it is judged. */
    private void giveFrom(int number, List<List<Integer>> rows) {
        if (number == calls.size()) {
            judge(rows);
            return;
        }
        Call call = calls.get(number);
        List<Integer> able = call.open ? carsOf(call) : List.of();
        if (able.isEmpty()) {
            giveFrom(number + 1, rows);
        }
        for (int c : able) {
            List<Integer> row = rows.get(c);
            for (int place = 0; place <= row.size(); place++) {
                row.add(place, number);
                giveFrom(number + 1, rows);
                row.remove(place);
            }
        }
    }

    private void judge(List<List<Integer>> rows) {
        for (int c = 0; c < rows.size(); c++) {
            for (int k = 1; k < rows.get(c).size(); k++) {
                if (calls.get(rows.get(c).get(k)).begunBy == cars.get(c)) {
                    return;
                }
            }
        }
        Giving giving = new Giving();
        for (List<Integer> row : rows) {
            giving.rows.add(new ArrayList<>(row));
        }
        giving.reckon();
        if (made == null || giving.isBefore(made)) {
            made = giving;
        }
    }

    private boolean wasGiven(int call) {
        argument(in(call, 0, calls.size() - 1));
        return made != null && made.carOf(call) != -1;
    }

    int carOf(int call) {
        return wasGiven(call) ? made.carOf(call) : -1;
    }

    int turn(int car, int k) {
        carAt(car);
        argument(k >= 0);
        if (made == null || car >= made.rows.size() || k >= made.rows.get(car).size()) {
            return -1;
        }
        return made.rows.get(car).get(k);
    }

    int told(int call, int what) {
        boolean given = wasGiven(call);
        argument(in(what, 0, 2));
        if (!given) {
            return -1;
        }
        return what == 0 ? made.pick[call] : what == 1 ? made.set[call] : made.weight[call];
    }

    int left() {
        int count = 0;
        for (Call call : calls) {
            if (call.open && carsOf(call).isEmpty()) {
                count++;
            }
        }
        return count;
    }

    int cars(int call) {
        int set = 0;
        for (int car : carsOf(openAt(call))) {
            set += 1 << car;
        }
        return set;
    }

    int open() {
        int count = 0;
        for (Call call : calls) {
            if (call.open) {
                count++;
            }
        }
        return count;
    }

    int weight(int call) {
        return weightOf(openAt(call));
    }
}
