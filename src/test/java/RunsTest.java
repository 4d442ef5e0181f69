import java.util.Random;
import java.util.function.LongSupplier;

/** Runs of calls drawn by fixed seeds; each of an object's 512 calls is answered as Model answers it. */
final class RunsTest {
    private static final int RUNS = 900;
    private static final int MOST_CALLS = 512;
    private static final int GIVES = 12;
    /** One run of so many goes on behind the 512th call, where every answer is free. */
    private static final int LONG_RUNS = 30;
    private static final int LONG = 2000;
    private static final long ILLEGAL_ARGUMENT = 1L << 60;
    private static final long ILLEGAL_STATE = 1L << 61;
    private static final long OTHER = 1L << 62;
    private static final int[] WRONG = {-1, -2, 60, 400, 1001, 100001, Integer.MIN_VALUE, Integer.MAX_VALUE};

    private final Checks checks;
    private final String name;
    private final Random random;
    private final int floors;
    private final boolean isLong;
    private final CallSums sums;
    private final Model model;
    private int calls;
    private int cars;
    private int rides;
    private int gives;

    private RunsTest(Checks checks, int seed) {
        this.checks = checks;
        this.name = "run " + seed + ": ";
        this.isLong = seed % LONG_RUNS == 0;
        this.random = new Random(seed);
        // few floors and alike cars make many givings of one sum
        int[] sizes = {2, 3, 4, 6, 12, 60};
        this.floors = sizes[random.nextInt(sizes.length)];
        this.sums = new CallSums(floors);
        this.model = new Model(floors);
    }

    public static void main(String[] args) {
        Checks checks = new Checks();
        for (int seed = 0; seed < RUNS; seed++) {
            new RunsTest(checks, seed).run();
        }
        checks.end("RunsTest");
    }

    private void run() {
        while (isLong ? calls < LONG : calls < MOST_CALLS && gives < GIVES) {
            int kind = random.nextInt(100);
            if (kind < 70) {
                change();
            } else if (kind < 80) {
                gives++;
                same("give()", sums::give, model::give);
                askAll();
            } else {
                ask(random.nextInt(9), number(rides), number(cars), number(6));
            }
        }
    }

    /** A number of 0 .. end - 1, seldom another one. */
    private int number(int end) {
        if (random.nextInt(25) == 0) {
            return WRONG[random.nextInt(WRONG.length)];
        }
        if (random.nextInt(25) == 0) {
            return end;
        }
        return end < 1 ? 0 : random.nextInt(end);
    }

    /** The number of a call that may be open. */
    private int lateCall() {
        return random.nextInt(10) == 0 ? number(rides) : Math.max(0, rides - 1 - number(8));
    }

    private void change() {
        int floor = number(floors);
        int to = number(floors);
        int car = number(cars);
        int late = lateCall();
        int least = Math.min(floor, to);
        int greatest = random.nextInt(20) == 0 ? least - 1 : Math.max(floor, to);
        boolean on = random.nextBoolean();
        switch (random.nextInt(13)) {
            case 0, 1 -> {
                int speed = random.nextInt(10) == 0 ? number(7) : 1 + random.nextInt(random.nextInt(5) + 1);
                if (same("car(" + floor + ", " + speed + ")", () -> sums.car(floor, speed), () -> model.car(floor, speed))) {
                    cars++;
                }
            }
            case 2 -> {
                int second = random.nextBoolean() ? number(100) : number(100001);
                same("free(" + car + ", " + floor + ", " + second + ")", () -> none(() -> sums.free(car, floor, second)),
                        () -> none(() -> model.free(car, floor, second)));
            }
            case 3 -> same("zone(" + car + ", " + least + ", " + greatest + ")",
                    () -> none(() -> sums.zone(car, least, greatest)), () -> none(() -> model.zone(car, least, greatest)));
            case 4 -> same("sleep(" + car + ", " + on + ")", () -> one(sums.sleep(car, on)), () -> one(model.sleep(car, on)));
            case 5, 6, 7, 8 -> {
                if (same("call(" + floor + ", " + to + ")", () -> sums.call(floor, to), () -> model.call(floor, to))) {
                    rides++;
                }
            }
            case 9 -> same("urgent(" + late + ", " + on + ")", () -> one(sums.urgent(late, on)), () -> one(model.urgent(late, on)));
            case 10 -> {
                int by = random.nextInt(4) == 0 ? CallSums.NONE : car;
                same("begin(" + late + ", " + by + ")", () -> one(sums.begin(late, by)), () -> one(model.begin(late, by)));
            }
            case 11 -> same("done(" + late + ")", () -> none(() -> sums.done(late)), () -> none(() -> model.done(late)));
            default -> {
                int n = random.nextInt(10) == 0 ? number(1001) : 1 + random.nextInt(45);
                same("pass(" + n + ")", () -> sums.pass(n), () -> model.pass(n));
            }
        }
    }

    private void ask(int which, int call, int car, int k) {
        switch (which) {
            case 0, 1, 2 -> same("told(" + call + ", " + which + ")", () -> sums.told(call, which), () -> model.told(call, which));
            case 3 -> same("carOf(" + call + ")", () -> sums.carOf(call), () -> model.carOf(call));
            case 4 -> same("turn(" + car + ", " + k + ")", () -> sums.turn(car, k), () -> model.turn(car, k));
            case 5 -> same("cars(" + call + ")", () -> sums.cars(call), () -> model.cars(call));
            case 6 -> same("weight(" + call + ")", () -> sums.weight(call), () -> model.weight(call));
            case 7 -> same("left()", sums::left, model::left);
            case 8 -> same("open()", sums::open, model::open);
            default -> same("told(" + call + ", " + k + ")", () -> sums.told(call, k), () -> model.told(call, k));
        }
    }

    /** What the giving says of the latest calls and of all rows. */
    private void askAll() {
        for (int call = Math.max(0, rides - 7); call < rides; call++) {
            for (int which = 0; which < 4; which++) {
                ask(which, call, 0, 0);
            }
        }
        for (int car = 0; car < cars; car++) {
            for (int k = 0; k < 4; k++) {
                ask(4, 0, car, k);
            }
        }
    }

    private static long one(boolean answer) {
        return answer ? 1 : 0;
    }

    private static long none(Runnable call) {
        call.run();
        return 0;
    }

    /** Whether both answer, and do not throw. */
    private boolean same(String call, LongSupplier got, LongSupplier want) {
        if (calls >= MOST_CALLS) {
            return isLong && further(call, got);
        }
        calls++;
        long due = answer(want);
        checks.due(name + call, answer(got), due);
        return due < ILLEGAL_ARGUMENT;
    }

    /** Behind the 512th call nothing is due but that no other exception is thrown. */
    private boolean further(String call, LongSupplier got) {
        calls++;
        long answer = answer(got);
        checks.due(name + call + " throws another exception", answer == OTHER, false);
        return answer < ILLEGAL_ARGUMENT;
    }

    /** An exception counts as a number that is no answer. */
    private static long answer(LongSupplier call) {
        try {
            return call.getAsLong();
        } catch (RuntimeException e) {
            return e.getClass() == IllegalArgumentException.class ? ILLEGAL_ARGUMENT
                    : e.getClass() == IllegalStateException.class ? ILLEGAL_STATE : OTHER;
        }
    }
}
