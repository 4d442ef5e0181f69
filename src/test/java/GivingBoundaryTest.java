/** Promises 11 to 18 and the terms behind them: each sentence that names a boundary case has a test of its own. */
final class GivingBoundaryTest {
    private static final int NONE = CallSums.NONE;
    private static final int LOW = Integer.MIN_VALUE;
    private static final int HIGH = Integer.MAX_VALUE;
    private static final Checks CHECKS = new Checks();

    public static void main(String[] args) {
        giveNothing();
        giveCosts();
        giveTies();
        giveBegun();
        giveMay();
        giveStays();
        carOf();
        turn();
        told();
        left();
        cars();
        open();
        weight();
        manyCalls();
        CHECKS.end("GivingBoundaryTest");
    }

    private static void about(String sentence, Runnable test) {
        CHECKS.about(sentence, test);
    }

    private static void due(String what, long got, long want) {
        CHECKS.due(what, got, want);
    }

    private static void illegal(String what, Runnable call) {
        CHECKS.illegalArgument(what, call);
    }

    /** Ten floors, and cars of speed 1 at these. */
    private static CallSums carsAt(int... floors) {
        CallSums x = new CallSums(10);
        for (int floor : floors) {
            x.car(floor, 1);
        }
        return x;
    }

    private static void atTime(CallSums x, int time) {
        for (int left = time; left > 0; left -= 1000) {
            x.pass(Math.min(left, 1000));
        }
    }

    /** A car's row is this, and no more. */
    private static void row(CallSums x, int car, int... calls) {
        for (int k = 0; k < calls.length; k++) {
            due("turn(" + car + ", " + k + ")", x.turn(car, k), calls[k]);
        }
        due("turn(" + car + ", " + calls.length + ")", x.turn(car, calls.length), NONE);
        for (int call : calls) {
            due("carOf(" + call + ")", x.carOf(call), car);
        }
    }

    private static void costs(CallSums x, int call, int pick, int set, int weight) {
        due("PICK of " + call, x.told(call, 0), pick);
        due("SET of " + call, x.told(call, 1), set);
        due("WEIGHT of " + call, x.told(call, 2), weight);
    }

    private static void notGiven(CallSums x, int call) {
        due("carOf(" + call + ")", x.carOf(call), NONE);
        costs(x, call, NONE, NONE, NONE);
    }

    private static void giveNothing() {
        about("11: no calls and no cars", () -> due("sum", new CallSums(10).give(), 0));
        about("11: no calls", () -> {
            CallSums x = carsAt(0, 0, 0, 0);
            due("sum", x.give(), 0);
            for (int car = 0; car < 4; car++) {
                row(x, car);
            }
        });
        about("11: no cars", () -> {
            CallSums x = carsAt();
            for (int i = 0; i < 6; i++) {
                x.call(0, 1);
            }
            due("sum", x.give(), 0);
            for (int i = 0; i < 6; i++) {
                notGiven(x, i);
            }
        });
        about("11: all calls are done", () -> {
            CallSums x = carsAt(0);
            x.call(0, 1);
            x.call(1, 0);
            x.give();
            x.done(0);
            x.done(1);
            due("sum", x.give(), 0);
            notGiven(x, 0);
            notGiven(x, 1);
            row(x, 0);
        });
        about("11: calls that have no cars are not given", () -> {
            CallSums x = carsAt(0);
            x.zone(0, 0, 4);
            x.call(8, 9);
            x.call(1, 2);
            x.call(7, 1);
            x.call(2, 3);
            // 1: 1 + 5, leaves floor 2 at 8; 3: 8 + 12
            due("sum of the others", x.give(), 26);
            row(x, 0, 1, 3);
            notGiven(x, 0);
            notGiven(x, 2);
        });
        about("11: no call has cars any more", () -> {
            CallSums x = carsAt(0);
            x.call(1, 2);
            due("sum", x.give(), 6);
            x.zone(0, 2, 9);
            due("sum of none", x.give(), 0);
            notGiven(x, 0);
            row(x, 0);
        });
    }

    private static void giveCosts() {
        about("Terms: a car that stands there comes after 0 seconds", () -> {
            CallSums x = new CallSums(10);
            x.car(3, 5);
            x.call(3, 4);
            due("sum", x.give(), 8);
            costs(x, 0, 0, 8, 1);
        });
        about("Terms: speed seconds a floor", () -> {
            for (int speed = 1; speed <= 5; speed++) {
                CallSums x = new CallSums(60);
                x.car(59, speed);
                x.call(0, 59);
                x.give();
                costs(x, 0, 59 * speed, 118 * speed + 3, 1);
            }
        });
        about("Terms: stops 3 seconds at both floors", () -> {
            CallSums x = carsAt(0);
            x.call(0, 1);
            x.call(0, 1);
            due("sum", x.give(), 4 + 20);
            costs(x, 0, 0, 4, 1);
            costs(x, 1, 8, 12, 1);
        });
        about("Terms: WEIGHT is one more for each whole 30 seconds", () -> {
            CallSums x = carsAt(0);
            x.call(2, 6);
            int[][] sums = {{29, 11}, {1, 13}, {29, 13}, {1, 15}, {840, 71}};
            for (int[] pair : sums) {
                int time = x.pass(pair[0]);
                due("sum at " + time, x.give(), pair[1]);
            }
        });
        about("Terms: four times that if it is urgent", () -> {
            CallSums x = carsAt(0);
            x.call(2, 6);
            x.urgent(0, true);
            due("at once", x.give(), 4 * 2 + 9);
            x.pass(30);
            due("behind 30 seconds", x.give(), 8 * 2 + 9);
            x.urgent(0, false);
            due("not any more", x.give(), 2 * 2 + 9);
        });
        about("Terms: the weights decide, one whole 30 seconds more", () -> {
            CallSums x = carsAt(5);
            x.call(8, 9);
            x.pass(1);
            x.call(2, 1);
            x.pass(29);
            // 0 first: 2 * 3 + 7, leaves floor 9 at 10: 17 + 21; 1 first: 3 + 7 and 2 * 17 + 21
            due("sum", x.give(), 13 + 38);
            row(x, 0, 0, 1);
            x.pass(1);
            due("alike again", x.give(), 2 * 3 + 7 + 2 * 17 + 21);
            row(x, 0, 0, 1);
            x.urgent(1, true);
            due("1 is urgent", x.give(), 8 * 3 + 7 + 2 * 17 + 21);
            row(x, 0, 1, 0);
        });
        about("Terms: SET is not weighed", () -> {
            // by car 0: 10 * 9 + 13; by car 1 of speed 5: 10 * 10 + 18
            CallSums x = new CallSums(20);
            x.car(0, 1);
            x.car(7, 5);
            x.call(9, 10);
            x.pass(270);
            due("sum", x.give(), 103);
            row(x, 0, 0);
            x.zone(0, 0, 0);
            due("sum of the other", x.give(), 118);
        });
        about("Terms: six calls and four cars, all there may be", () -> {
            CallSums x = new CallSums(60);
            int[][] cars = {{0, 0, 9}, {20, 10, 29}, {40, 30, 49}, {59, 50, 59}};
            for (int[] car : cars) {
                int number = x.car(car[0], 5);
                x.zone(number, car[1], car[2]);
            }
            int[][] calls = {{1, 2}, {20, 21}, {40, 49}, {50, 59}, {21, 20}, {2, 3}};
            for (int[] call : calls) {
                x.call(call[0], call[1]);
            }
            due("sum", x.give(), 5 + 13 + 16 + 24 + 0 + 8 + 11 + 19 + 0 + 48 + 45 + 93);
            row(x, 0, 0, 5);
            row(x, 1, 1, 4);
            row(x, 2, 2);
            row(x, 3, 3);
            costs(x, 5, 16, 24, 1);
            costs(x, 3, 45, 93, 1);
        });
        about("Terms: the heaviest weight, and the latest car", () -> {
            CallSums x = new CallSums(60);
            x.car(59, 5);
            x.call(0, 59);
            x.urgent(0, true);
            x.free(0, 59, 100000);
            due("at 0", x.give(), 4 * 100295 + 100593);
            atTime(x, 100000);
            due("at 100000", x.give(), 13336 * 295 + 593);
            costs(x, 0, 295, 593, 13336);
        });
    }

    private static void giveTies() {
        about("Terms: of several the one whose first call has the least car", () -> {
            CallSums x = carsAt(0, 0, 0, 0);
            x.call(2, 6);
            for (int car = 0; car < 4; car++) {
                x.give();
                row(x, car, 0);
                x.sleep(car, true);
            }
            x.give();
            row(x, 0, 0);
        });
        about("Terms: then the second, and so on", () -> {
            CallSums x = carsAt(0, 0, 0, 0);
            for (int i = 0; i < 4; i++) {
                x.call(2, 6);
            }
            due("sum", x.give(), 4 * 11);
            for (int i = 0; i < 4; i++) {
                row(x, i, i);
            }
        });
        about("Terms: the first call is before the second, whatever that has", () -> {
            // both are as far from car 0 as from car 1
            CallSums x = carsAt(4, 4, 9);
            x.call(4, 5);
            x.call(4, 3);
            x.zone(0, 0, 5);
            due("sum", x.give(), 8);
            row(x, 0, 0);
            row(x, 1, 1);
            // call 0 by car 1 would leave car 0 to call 1
            CallSums y = carsAt(4, 4);
            y.call(4, 3);
            y.call(4, 5);
            y.give();
            row(y, 0, 0);
            row(y, 1, 1);
        });
        about("Terms: the least car though its row is longer", () -> {
            // 1 behind 0 by car 0: leaves floor 1 at 7; by car 1: seven floors
            CallSums x = carsAt(0, 8);
            x.call(0, 1);
            x.call(1, 2);
            due("sum", x.give(), 4 + 7 + 11);
            row(x, 0, 0, 1);
            row(x, 1);
        });
        about("Terms: the least car though its row is shorter", () -> {
            CallSums x = carsAt(8, 0);
            x.call(0, 1);
            x.call(1, 2);
            due("sum", x.give(), 4 + 7 + 11);
            row(x, 1, 0);
            row(x, 0, 1);
        });
        about("Terms: of these the one whose row has the least call first", () -> {
            for (int up = 0; up < 2; up++) {
                CallSums x = carsAt(5);
                x.call(5, up == 1 ? 6 : 4);
                x.call(5, up == 1 ? 4 : 6);
                due("sum", x.give(), 4 + 8 + 12);
                row(x, 0, 0, 1);
            }
        });
        about("Terms: then second, and so on", () -> {
            for (int up = 0; up < 2; up++) {
                CallSums x = carsAt(5);
                x.call(5, up == 1 ? 6 : 4);
                x.call(5, up == 1 ? 4 : 6);
                x.call(4, 5);
                x.begin(2, 0);
                // 2: 1 + 5, leaves floor 5 at 8; 8 + 12, leaves at 15; 16 + 20
                due("sum", x.give(), 6 + 20 + 36);
                row(x, 0, 2, 0, 1);
            }
        });
        about("Terms: six calls that are alike, by one car", () -> {
            CallSums x = carsAt(0);
            for (int i = 0; i < 6; i++) {
                x.call(0, 1);
            }
            due("sum", x.give(), 6 * 4 + 16 * 15);
            row(x, 0, 0, 1, 2, 3, 4, 5);
        });
        about("Terms: for car 0, then car 1, and so on", () -> {
            CallSums x = new CallSums(60);
            for (int car = 0; car < 3; car++) {
                x.car(10 + 20 * car, 1);
                x.zone(car, 20 * car, 20 * car + 19);
            }
            for (int car = 2; car >= 0; car--) {
                x.call(10 + 20 * car, 11 + 20 * car);
                x.call(10 + 20 * car, 9 + 20 * car);
            }
            due("sum", x.give(), 3 * 24);
            row(x, 0, 4, 5);
            row(x, 1, 2, 3);
            row(x, 2, 0, 1);
        });
        about("Terms: the numbers decide after the first ones are done", () -> {
            CallSums x = carsAt(5);
            for (int i = 0; i < 6; i++) {
                x.call(0, 1);
            }
            x.done(0);
            x.done(3);
            x.call(0, 1);
            x.call(0, 1);
            x.give();
            row(x, 0, 1, 2, 4, 5, 6, 7);
        });
    }

    private static void giveBegun() {
        about("Terms: the one that it has begun is the first", () -> {
            CallSums x = carsAt(0);
            x.call(1, 2);
            x.call(9, 8);
            due("none is begun", x.give(), 6 + 34);
            row(x, 0, 0, 1);
            x.begin(1, 0);
            due("1 is begun", x.give(), 9 + 13 + 23 + 27);
            row(x, 0, 1, 0);
            x.begin(1, NONE);
            due("none is begun any more", x.give(), 40);
            row(x, 0, 0, 1);
        });
        about("Terms: the begun one is the first, though it is the farthest, in each place of the numbers", () -> {
            for (int far = 0; far < 6; far++) {
                CallSums x = carsAt(0);
                for (int i = 0; i < 6; i++) {
                    x.call(i == far ? 9 : 0, i == far ? 8 : 1);
                }
                x.give();
                due("turn(0, 5), not begun", x.turn(0, 5), far);
                x.begin(far, 0);
                x.give();
                due("turn(0, 0), begun", x.turn(0, 0), far);
                costs(x, far, 9, 13, 1);
                due("turn(0, 5), begun", x.turn(0, 5), far == 5 ? 4 : 5);
            }
        });
        about("Terms: the begun one is the first of six that are alike", () -> {
            for (int begun = 0; begun < 6; begun++) {
                CallSums x = carsAt(0);
                for (int i = 0; i < 6; i++) {
                    x.call(0, 1);
                }
                x.begin(begun, 0);
                due("sum", x.give(), 264);
                due("turn(0, 0)", x.turn(0, 0), begun);
                due("turn(0, 1)", x.turn(0, 1), begun == 0 ? 1 : 0);
                due("turn(0, 5)", x.turn(0, 5), begun == 5 ? 4 : 5);
            }
        });
        about("Terms: a call that is begun just that car", () -> {
            CallSums x = carsAt(0, 9);
            x.call(9, 8);
            x.begin(0, 0);
            due("sum", x.give(), 9 + 13);
            row(x, 0, 0);
            x.sleep(0, true);
            due("its car is asleep", x.give(), 22);
            row(x, 0, 0);
            x.begin(0, 1);
            due("by the other", x.give(), 0 + 4);
            row(x, 1, 0);
        });
        about("Terms: and only so, as long as the zone holds both floors", () -> {
            CallSums x = carsAt(0, 9);
            x.call(9, 8);
            x.call(0, 1);
            x.begin(0, 0);
            x.zone(0, 0, 8);
            due("0 has no cars", x.cars(0), 0);
            due("sum of the other", x.give(), 4);
            notGiven(x, 0);
            row(x, 0, 1);
            due("it is left", x.left(), 1);
            due("car 0 may begin no other one", x.begin(1, 0) ? 1 : 0, 0);
            x.sleep(0, true);
            due("asleep, 0 has no cars either", x.cars(0), 0);
            x.sleep(0, false);
            x.zone(0, 0, 9);
            due("0 has car 0 again", x.cars(0), 1);
            due("sum of both", x.give(), 9 + 13 + 9 + 13);
            row(x, 0, 0);
            row(x, 1, 1);
            x.sleep(1, true);
            due("sum of both by car 0", x.give(), 9 + 13 + 24 + 28);
            row(x, 0, 0, 1);
        });
        about("Terms: each of four cars has begun one", () -> {
            CallSums x = carsAt(0, 3, 6, 9);
            for (int i = 0; i < 6; i++) {
                x.call(3 * (i % 4), 3 * (i % 4) == 9 ? 8 : 3 * (i % 4) + 1);
            }
            for (int car = 0; car < 4; car++) {
                x.begin(3 - car, car);
            }
            x.give();
            for (int car = 0; car < 4; car++) {
                due("turn(" + car + ", 0)", x.turn(car, 0), 3 - car);
                due("carOf(" + (3 - car) + ")", x.carOf(3 - car), car);
            }
        });
    }

    private static void giveMay() {
        about("Terms: those awake that may take it", () -> {
            CallSums x = carsAt(0, 9);
            x.call(0, 1);
            x.sleep(0, true);
            due("the far one is awake", x.give(), 9 + 13);
            row(x, 1, 0);
        });
        about("Terms: if there are none, those asleep that may", () -> {
            CallSums x = carsAt(0, 9);
            x.call(0, 1);
            x.sleep(0, true);
            x.sleep(1, true);
            due("both are asleep", x.give(), 4);
            row(x, 0, 0);
            x.sleep(1, false);
            x.zone(1, 1, 9);
            due("the one awake may not", x.give(), 4);
            row(x, 0, 0);
        });
        about("Terms: of a call that no car may take none asleep is asked", () -> {
            CallSums x = carsAt(0, 9);
            x.call(0, 9);
            x.sleep(1, true);
            x.zone(0, 0, 8);
            x.zone(1, 1, 9);
            due("sum", x.give(), 0);
            notGiven(x, 0);
        });
    }

    /** All that a giving of the calls 0 to 2 by two cars said. */
    private static void saidOfThree(CallSums x) {
        row(x, 0, 0);
        row(x, 1, 1);
        costs(x, 0, 0, 4, 1);
        costs(x, 1, 0, 4, 1);
        notGiven(x, 2);
    }

    private static CallSums givenThree() {
        CallSums x = carsAt(0, 9);
        x.call(0, 1);
        x.call(9, 8);
        x.zone(0, 0, 3);
        x.zone(1, 6, 9);
        x.call(4, 5);
        x.give();
        return x;
    }

    private static void giveStays() {
        about("Terms: it stays until the next one, with what it said", () -> {
            CallSums x = givenThree();
            saidOfThree(x);
            x.pass(90);
            saidOfThree(x);
            x.urgent(0, true);
            saidOfThree(x);
            x.zone(0, 0, 9);
            saidOfThree(x);
            x.begin(1, 0);
            saidOfThree(x);
            x.sleep(1, true);
            saidOfThree(x);
            x.free(0, 9, 500);
            saidOfThree(x);
            x.done(0);
            saidOfThree(x);
            x.call(0, 1);
            saidOfThree(x);
            x.car(5, 1);
            saidOfThree(x);
            notGiven(x, 3);
            row(x, 2);
            x.left();
            x.open();
            x.cars(2);
            x.weight(2);
            saidOfThree(x);
            x.give();
            notGiven(x, 0);
            due("carOf(1) anew", x.carOf(1), 0);
            due("PICK of 1 anew", x.told(1, 0), 410);
            due("WEIGHT of 1 anew", x.told(1, 2), 4);
            due("carOf(2) anew", x.carOf(2), 2);
        });
        about("11: made twice it is the same", () -> {
            CallSums x = givenThree();
            due("sum", x.give(), 8);
            saidOfThree(x);
            due("sum once more", x.give(), 8);
            saidOfThree(x);
        });
    }

    private static void carOf() {
        about("12: NONE if none was made", () -> {
            CallSums x = carsAt(0);
            x.call(0, 1);
            due("open", x.carOf(0), NONE);
            x.done(0);
            due("done", x.carOf(0), NONE);
        });
        about("12: NONE if it was not given", () -> {
            CallSums x = givenThree();
            due("it had no cars", x.carOf(2), NONE);
            due("it came later", x.carOf(x.call(0, 1)), NONE);
            x.done(0);
            x.give();
            due("it was done", x.carOf(0), NONE);
        });
        about("12: illegal argument, there never was such a call", () -> {
            CallSums x = carsAt(0);
            for (int call : new int[] {0, 1, -1, 6, 400, LOW, HIGH}) {
                illegal("before call 0, " + call, () -> x.carOf(call));
            }
            CallSums y = givenThree();
            for (int call : new int[] {3, 4, -1, 6, 400, LOW, HIGH}) {
                illegal("before call 3, " + call, () -> y.carOf(call));
            }
        });
    }

    private static void turn() {
        about("13: NONE if it has no more", () -> {
            CallSums x = carsAt(0, 9);
            for (int i = 0; i < 6; i++) {
                x.call(i, i + 1);
                x.zone(1, 9, 9);
                x.give();
                due("the last of " + (i + 1), x.turn(0, i), i);
                for (int k : new int[] {i + 1, 6, 7, 12, 400, HIGH}) {
                    due("turn(0, " + k + ") of " + (i + 1), x.turn(0, k), NONE);
                }
                due("of the other car", x.turn(1, 0), NONE);
            }
        });
        about("13: behind a car's row stands no other car's", () -> {
            CallSums x = carsAt(0, 3, 6, 9);
            for (int i = 0; i < 4; i++) {
                x.call(3 * i, i == 3 ? 8 : 3 * i + 1);
            }
            x.give();
            for (int car = 0; car < 4; car++) {
                due("car " + car, x.turn(car, 0), car);
                for (int k = 1; k < 25; k++) {
                    due("car " + car + ", k " + k, x.turn(car, k), NONE);
                }
            }
        });
        about("13: NONE if none was made", () -> {
            CallSums x = carsAt(0, 0, 0, 0);
            x.call(0, 1);
            for (int car = 0; car < 4; car++) {
                due("car " + car, x.turn(car, 0), NONE);
            }
        });
        about("13: illegal argument, k is below 0", () -> {
            CallSums x = givenThree();
            for (int k : new int[] {-1, -2, -6, LOW}) {
                illegal("car 0, k " + k, () -> x.turn(0, k));
                illegal("car 1, k " + k, () -> x.turn(1, k));
            }
            CallSums y = carsAt(0);
            illegal("none was made", () -> y.turn(0, -1));
        });
        about("13: illegal argument, no such car", () -> {
            CallSums x = givenThree();
            for (int car : new int[] {2, 3, 4, -1, LOW, HIGH}) {
                illegal("car " + car, () -> x.turn(car, 0));
            }
            CallSums y = carsAt(0, 0, 0, 0);
            due("the fourth", y.turn(3, 0), NONE);
            illegal("a fifth", () -> y.turn(4, 0));
            illegal("a fifth, k is below 0", () -> y.turn(4, -1));
        });
    }

    private static void told() {
        about("14: illegal argument, what is not 0 .. 2", () -> {
            CallSums x = givenThree();
            for (int what : new int[] {-1, 3, 4, LOW, HIGH}) {
                illegal("a given one, " + what, () -> x.told(0, what));
                illegal("one not given, " + what, () -> x.told(2, what));
            }
            CallSums y = carsAt(0);
            y.call(0, 1);
            illegal("none was made, -1", () -> y.told(0, -1));
            illegal("none was made, 3", () -> y.told(0, 3));
        });
        about("14: NONE if it was not given", () -> {
            CallSums x = carsAt(0);
            x.call(0, 1);
            notGiven(x, 0);
            x.zone(0, 1, 1);
            x.give();
            notGiven(x, 0);
            x.zone(0, 0, 1);
            x.give();
            costs(x, 0, 0, 4, 1);
            x.done(0);
            x.give();
            notGiven(x, 0);
        });
        about("14: illegal argument, there never was such a call", () -> {
            CallSums x = carsAt(0);
            CallSums y = givenThree();
            for (int what = 0; what < 3; what++) {
                int kind = what;
                illegal("before call 0, " + what, () -> x.told(0, kind));
                for (int call : new int[] {3, 4, -1, 6, 400, LOW, HIGH}) {
                    illegal("call " + call + ", " + what, () -> y.told(call, kind));
                }
            }
        });
        about("14: WEIGHT as of then", () -> {
            CallSums x = carsAt(0);
            x.call(0, 1);
            x.pass(29);
            x.give();
            x.pass(1);
            due("then 1", x.told(0, 2), 1);
            due("now 2", x.weight(0), 2);
            x.give();
            x.urgent(0, true);
            due("then 2", x.told(0, 2), 2);
            due("now 8", x.weight(0), 8);
        });
    }

    private static void left() {
        about("15: none is open", () -> {
            CallSums x = carsAt();
            due("at first", x.left(), 0);
            x.call(0, 1);
            x.done(0);
            due("all are done", x.left(), 0);
        });
        about("15: without cars all are left", () -> {
            CallSums x = carsAt();
            for (int i = 0; i < 6; i++) {
                due("of " + i, x.left(), i);
                x.call(0, 1);
            }
            due("of six", x.left(), 6);
            x.car(0, 1);
            due("with a car", x.left(), 0);
        });
        about("15: cars asleep are cars", () -> {
            CallSums x = carsAt(0);
            x.call(0, 1);
            x.sleep(0, true);
            due("asleep", x.left(), 0);
        });
        about("15: a begun one whose car may not take it has no cars", () -> {
            CallSums x = carsAt(0, 0);
            x.call(0, 1);
            x.begin(0, 0);
            due("begun", x.left(), 0);
            x.zone(0, 1, 9);
            due("not within", x.left(), 1);
            x.begin(0, NONE);
            due("not begun", x.left(), 0);
        });
        about("15: it is as of now, not of the giving", () -> {
            CallSums x = givenThree();
            due("one", x.left(), 1);
            x.zone(1, 0, 9);
            due("none", x.left(), 0);
        });
    }

    private static void cars() {
        about("16: 2 to the power of each, together", () -> {
            CallSums x = carsAt(0, 0, 0, 0);
            x.call(0, 1);
            for (int set = 0; set < 16; set++) {
                for (int car = 0; car < 4; car++) {
                    x.zone(car, (set >> car & 1) != 0 ? 0 : 1, 9);
                }
                due("in the zones of " + set, x.cars(0), set);
            }
        });
        about("16: awake ones hide those asleep", () -> {
            CallSums x = carsAt(0, 0, 0, 0);
            x.call(0, 1);
            for (int awake = 0; awake < 16; awake++) {
                for (int car = 0; car < 4; car++) {
                    x.sleep(car, (awake >> car & 1) == 0);
                }
                due("awake are " + awake, x.cars(0), awake == 0 ? 15 : awake);
            }
        });
        about("16: 0 if it has none", () -> {
            CallSums x = carsAt();
            x.call(0, 1);
            due("no cars", x.cars(0), 0);
            x.car(0, 1);
            x.zone(0, 0, 0);
            due("none may", x.cars(0), 0);
            x.sleep(0, true);
            due("none asleep may", x.cars(0), 0);
        });
        about("16: illegal argument, it is not open", () -> {
            CallSums x = givenThree();
            x.done(1);
            for (int call : new int[] {1, 3, -1, 400, LOW, HIGH}) {
                illegal("call " + call, () -> x.cars(call));
            }
        });
    }

    private static void open() {
        about("17: from none to six and back", () -> {
            CallSums x = carsAt();
            for (int i = 0; i < 6; i++) {
                due("of " + i, x.open(), i);
                x.call(0, 1);
            }
            due("six", x.open(), 6);
            for (int i = 0; i < 6; i++) {
                x.done(i);
                due("without " + (i + 1), x.open(), 5 - i);
            }
        });
        about("17: a refused call is not open, a refused done closes none", () -> {
            CallSums x = carsAt();
            illegal("one floor", () -> x.call(1, 1));
            due("none", x.open(), 0);
            x.call(0, 1);
            illegal("no such call", () -> x.done(1));
            due("one", x.open(), 1);
        });
        about("17: given, begun and left ones are open", () -> {
            CallSums x = givenThree();
            x.begin(0, 0);
            due("three", x.open(), 3);
        });
    }

    private static void weight() {
        about("18: one more for each whole 30 seconds", () -> {
            CallSums x = carsAt();
            x.pass(7);
            x.call(0, 1);
            int[][] steps = {{1, 1}, {28, 1}, {1, 2}, {1, 2}, {28, 2}, {1, 3}, {30, 4}, {29, 4}, {1, 5}};
            for (int[] step : steps) {
                x.pass(step[0]);
                due("after " + step[0] + " more", x.weight(0), step[1]);
            }
        });
        about("18: four times that if it is urgent", () -> {
            CallSums x = carsAt();
            x.call(0, 1);
            x.urgent(0, true);
            due("at once", x.weight(0), 4);
            x.pass(29);
            due("behind 29 seconds", x.weight(0), 4);
            x.pass(1);
            due("behind 30 seconds", x.weight(0), 8);
            x.urgent(0, false);
            due("not any more", x.weight(0), 2);
        });
        about("18: the heaviest", () -> {
            CallSums x = carsAt();
            x.call(0, 1);
            atTime(x, 10);
            x.call(0, 1);
            x.pass(1);
            x.call(0, 1);
            atTime(x, 99989);
            due("since 0", x.weight(0), 3334);
            due("since 10", x.weight(1), 3334);
            due("since 11", x.weight(2), 3333);
            x.urgent(0, true);
            due("urgent", x.weight(0), 13336);
            due("of one since now", x.weight(x.call(0, 1)), 1);
        });
        about("18: illegal argument, it is not open", () -> {
            CallSums x = givenThree();
            x.done(1);
            for (int call : new int[] {1, 3, -1, 400, LOW, HIGH}) {
                illegal("call " + call, () -> x.weight(call));
            }
            due("0 is", x.weight(0), 1);
            due("2 is", x.weight(2), 1);
        });
    }

    private static void manyCalls() {
        about("An object is used for at most 512 calls: the 512th is answered like any other", () -> {
            CallSums x = carsAt(0, 9);
            for (int i = 0; i < 253; i++) {
                due("the call", x.call(i % 9, 9), i);
                x.done(i);
            }
            x.pass(30);
            due("the last call", x.call(9, 8), 253);
            x.begin(253, 0);
            due("the sum", x.give(), 9 + 13);
        });
    }
}
