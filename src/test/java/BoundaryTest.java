/** Promises 1 to 10: each sentence of the document that names a boundary case has a test of its own. */
final class BoundaryTest {
    private static final int NONE = CallSums.NONE;
    private static final int LOW = Integer.MIN_VALUE;
    private static final int HIGH = Integer.MAX_VALUE;
    private static final int[] NO_CAR_OF_FOUR = {4, 5, -1, -2, LOW, HIGH};
    private static final Checks CHECKS = new Checks();

    public static void main(String[] args) {
        newObject();
        cars();
        free();
        zone();
        sleep();
        calls();
        urgent();
        begin();
        done();
        pass();
        CHECKS.end("BoundaryTest");
    }

    private static void about(String sentence, Runnable test) {
        CHECKS.about(sentence, test);
    }

    private static void due(String what, long got, long want) {
        CHECKS.due(what, got, want);
    }

    private static void due(String what, boolean got, boolean want) {
        CHECKS.due(what, got, want);
    }

    private static void illegal(String what, Runnable call) {
        CHECKS.illegalArgument(what, call);
    }

    private static void state(String what, Runnable call) {
        CHECKS.illegalState(what, call);
    }

    /** Ten floors, and so many cars of speed 1 at floor 0. */
    private static CallSums ofCars(int count) {
        CallSums x = new CallSums(10);
        for (int i = 0; i < count; i++) {
            x.car(0, 1);
        }
        return x;
    }

    private static CallSums withCalls(int cars, int count) {
        CallSums x = ofCars(cars);
        for (int i = 0; i < count; i++) {
            x.call(2, 6);
        }
        return x;
    }

    private static void atTime(CallSums x, int time) {
        for (int left = time; left > 0; left -= 1000) {
            x.pass(Math.min(left, 1000));
        }
    }

    private static void newObject() {
        about("1: below 2 counts as 2", () -> {
            for (int n : new int[] {LOW, -60, -1, 0, 1}) {
                CallSums x = new CallSums(n);
                due("a car at 1 of " + n, x.car(1, 1), 0);
                illegal("a car at 2 of " + n, () -> x.car(2, 1));
                due("a call to 1 of " + n, x.call(0, 1), 0);
                illegal("a call to 2 of " + n, () -> x.call(0, 2));
                illegal("a call from 2 of " + n, () -> x.call(2, 0));
                due("its zone holds both, of " + n, x.cars(0), 1);
                illegal("a zone to 2 of " + n, () -> x.zone(0, 0, 2));
                illegal("free at 2 of " + n, () -> x.free(0, 2, 0));
            }
        });
        about("1: 2 to 60 are as many", () -> {
            for (int n = 2; n <= 60; n++) {
                CallSums x = new CallSums(n);
                int floors = n;
                due("a car at the topmost of " + n, x.car(n - 1, 1), 0);
                illegal("a car above " + n, () -> x.car(floors, 1));
                due("a call from the topmost of " + n, x.call(n - 1, 0), 0);
                illegal("a call to above " + n, () -> x.call(0, floors));
                due("its zone holds the topmost of " + n, x.cars(0), 1);
            }
        });
        about("1: above 60 counts as 60", () -> {
            for (int n : new int[] {61, 62, 99, 120, HIGH}) {
                CallSums x = new CallSums(n);
                due("a car at 59 of " + n, x.car(59, 1), 0);
                illegal("a car at 60 of " + n, () -> x.car(60, 1));
                due("a call from 59 of " + n, x.call(59, 0), 0);
                illegal("a call from 60 of " + n, () -> x.call(60, 0));
                illegal("a call to 60 of " + n, () -> x.call(0, 60));
                due("its zone holds 59, of " + n, x.cars(0), 1);
                illegal("a zone to 60 of " + n, () -> x.zone(0, 0, 60));
                illegal("free at 60 of " + n, () -> x.free(0, 60, 0));
            }
        });
        about("1: no cars", () -> {
            CallSums x = new CallSums(10);
            x.call(0, 1);
            for (int c = 0; c < 4; c++) {
                int car = c;
                illegal("free " + c, () -> x.free(car, 0, 0));
                illegal("zone " + c, () -> x.zone(car, 0, 9));
                illegal("sleep " + c, () -> x.sleep(car, true));
                illegal("begin " + c, () -> x.begin(0, car));
                illegal("turn " + c, () -> x.turn(car, 0));
            }
            due("a call has none", x.cars(0), 0);
        });
        about("Terms: a new object is at second 0 and has no calls", () -> {
            CallSums x = new CallSums(10);
            due("open", x.open(), 0);
            due("left", x.left(), 0);
            illegal("urgent", () -> x.urgent(0, true));
            illegal("begin", () -> x.begin(0, NONE));
            illegal("done", () -> x.done(0));
            illegal("carOf", () -> x.carOf(0));
            illegal("told", () -> x.told(0, 0));
            illegal("cars", () -> x.cars(0));
            illegal("weight", () -> x.weight(0));
            due("TIME", x.pass(1), 1);
        });
    }

    private static void cars() {
        about("2: a car is free at once", () -> {
            for (int time : new int[] {0, 1, 777, 100000}) {
                CallSums x = new CallSums(10);
                atTime(x, time);
                x.car(3, 5);
                x.call(3, 4);
                x.give();
                due("PICK at " + time, x.told(0, 0), 0);
            }
        });
        about("2: its number", () -> {
            CallSums x = new CallSums(10);
            for (int i = 0; i < 4; i++) {
                due("car " + i, x.car(i, 1), i);
            }
        });
        about("2: illegal argument, the floor is not 0 .. n - 1", () -> {
            CallSums x = new CallSums(10);
            for (int floor : new int[] {-1, 10, 60, LOW, HIGH}) {
                illegal("floor " + floor, () -> x.car(floor, 1));
            }
            due("floor 0", x.car(0, 1), 0);
            due("floor 9", x.car(9, 1), 1);
        });
        about("2: illegal argument, the speed is not 1 .. 5", () -> {
            for (int speed = 1; speed <= 5; speed++) {
                CallSums x = new CallSums(10);
                x.car(0, speed);
                x.call(7, 9);
                x.give();
                due("seven floors with speed " + speed, x.told(0, 0), 7 * speed);
            }
            CallSums x = new CallSums(10);
            for (int speed : new int[] {0, 6, -1, LOW, HIGH}) {
                illegal("speed " + speed, () -> x.car(0, speed));
            }
        });
        about("2: illegal state, there are 4", () -> {
            CallSums x = ofCars(3);
            due("the fourth", x.car(9, 5), 3);
            state("the fifth", () -> x.car(9, 5));
            state("once more", () -> x.car(0, 1));
        });
        about("2: illegal argument is named first", () -> {
            CallSums x = ofCars(4);
            illegal("the fifth below all floors", () -> x.car(-1, 1));
            illegal("the fifth above all floors", () -> x.car(10, 1));
            illegal("the fifth of speed 0", () -> x.car(0, 0));
            illegal("the fifth of speed 6", () -> x.car(0, 6));
        });
        about("2: a refused car takes no number", () -> {
            CallSums x = new CallSums(10);
            illegal("floor 10", () -> x.car(10, 1));
            illegal("speed 6", () -> x.car(0, 6));
            due("the first", x.car(0, 1), 0);
            x.car(0, 1);
            x.car(0, 1);
            x.car(9, 1);
            x.call(9, 8);
            state("the fifth", () -> x.car(0, 5));
            due("four stay", x.cars(0), 15);
            illegal("the fifth is no car", () -> x.sleep(4, true));
            due("they stay where they are", x.give(), 0 + 4);
            due("the fourth is", x.carOf(0), 3);
        });
        about("Terms: all floors are a car's zone at first", () -> {
            CallSums x = ofCars(1);
            due("up", x.cars(x.call(0, 9)), 1);
            due("down", x.cars(x.call(9, 0)), 1);
        });
        about("Terms: awake at first", () -> {
            CallSums x = ofCars(4);
            for (int car = 0; car < 4; car++) {
                due("car " + car, x.sleep(car, true), false);
            }
        });
    }

    private static void free() {
        about("3: illegal argument, the second is not 0 .. 100000", () -> {
            CallSums x = withCalls(1, 1);
            for (int second : new int[] {-1, 100001, LOW, HIGH}) {
                illegal("second " + second, () -> x.free(0, 0, second));
            }
            x.free(0, 2, 100000);
            x.give();
            due("100000", x.told(0, 0), 100000);
            x.free(0, 2, 0);
            x.give();
            due("0", x.told(0, 0), 0);
        });
        about("3: illegal argument, the floor is not 0 .. n - 1", () -> {
            CallSums x = withCalls(1, 1);
            for (int floor : new int[] {-1, 10, 60, LOW, HIGH}) {
                illegal("floor " + floor, () -> x.free(0, floor, 0));
            }
            x.free(0, 9, 0);
            x.give();
            due("9", x.told(0, 0), 7);
            x.free(0, 0, 0);
            x.give();
            due("0", x.told(0, 0), 2);
        });
        about("3: illegal argument, no such car", () -> {
            CallSums x = ofCars(1);
            illegal("the second of one", () -> x.free(1, 0, 0));
            CallSums y = ofCars(4);
            y.free(3, 0, 0);
            for (int car : NO_CAR_OF_FOUR) {
                illegal("car " + car, () -> y.free(car, 0, 0));
            }
        });
        about("3: the other cars are free as they were", () -> {
            CallSums x = withCalls(2, 1);
            x.free(0, 9, 50);
            x.give();
            due("PICK of car 1", x.told(0, 0), 2);
            due("it has it", x.carOf(0), 1);
        });
        about("Terms: from the greater of TIME and the second", () -> {
            CallSums x = withCalls(1, 1);
            atTime(x, 40);
            int[][] picks = {{0, 0}, {39, 0}, {40, 0}, {41, 1}, {100000, 99960}};
            for (int[] pair : picks) {
                x.free(0, 2, pair[0]);
                x.give();
                due("from " + pair[0] + " on", x.told(0, 0), pair[1]);
            }
        });
        about("3: a refused one changes nothing", () -> {
            CallSums x = withCalls(1, 1);
            x.free(0, 5, 10);
            illegal("another floor, no second", () -> x.free(0, 9, -1));
            illegal("another floor, above all seconds", () -> x.free(0, 9, 100001));
            illegal("another second, no floor", () -> x.free(0, 10, 50));
            illegal("another second, below all floors", () -> x.free(0, -1, 50));
            x.give();
            due("PICK", x.told(0, 0), 13);
        });
    }

    private static void zone() {
        about("4: illegal argument, least is greater than greatest", () -> {
            CallSums x = ofCars(1);
            illegal("by one", () -> x.zone(0, 5, 4));
            illegal("by one, below", () -> x.zone(0, 1, 0));
            illegal("by one, above", () -> x.zone(0, 9, 8));
            illegal("by nine", () -> x.zone(0, 9, 0));
        });
        about("4: both may be one", () -> {
            CallSums x = withCalls(1, 1);
            for (int floor : new int[] {0, 5, 9}) {
                x.zone(0, floor, floor);
                due("no call is within " + floor, x.cars(0), 0);
            }
        });
        about("4: illegal argument, a floor is not 0 .. n - 1", () -> {
            CallSums x = ofCars(1);
            for (int floor : new int[] {-1, 10, 60, LOW, HIGH}) {
                illegal("both " + floor, () -> x.zone(0, floor, floor));
                illegal("least " + floor, () -> x.zone(0, floor, 9));
                illegal("greatest " + floor, () -> x.zone(0, 0, floor));
            }
        });
        about("4: all floors may be the zone", () -> {
            CallSums x = ofCars(1);
            x.call(0, 9);
            x.zone(0, 4, 5);
            due("not within", x.cars(0), 0);
            x.zone(0, 0, 9);
            due("within", x.cars(0), 1);
        });
        about("4: illegal argument, no such car", () -> {
            CallSums x = ofCars(1);
            illegal("the second of one", () -> x.zone(1, 0, 9));
            CallSums y = ofCars(4);
            y.zone(3, 0, 9);
            for (int car : NO_CAR_OF_FOUR) {
                illegal("car " + car, () -> y.zone(car, 0, 9));
            }
        });
        about("Terms: both of its floors are in its zone, the zone's edges too", () -> {
            CallSums x = ofCars(1);
            x.call(2, 6);
            x.call(6, 2);
            int[][] zones = {{2, 6, 1}, {1, 7, 1}, {3, 6, 0}, {2, 5, 0}, {3, 5, 0}, {0, 2, 0}, {6, 9, 0}, {7, 9, 0}, {0, 1, 0}};
            for (int[] zone : zones) {
                x.zone(0, zone[0], zone[1]);
                due("up, within " + zone[0] + " to " + zone[1], x.cars(0), zone[2]);
                due("down, within " + zone[0] + " to " + zone[1], x.cars(1), zone[2]);
            }
        });
        about("4: the other cars' zones stay", () -> {
            CallSums x = withCalls(4, 1);
            x.zone(2, 5, 5);
            due("all but 2", x.cars(0), 11);
        });
        about("4: a refused one changes nothing", () -> {
            CallSums x = ofCars(1);
            x.call(3, 7);
            x.zone(0, 3, 7);
            illegal("no greatest", () -> x.zone(0, 5, 10));
            illegal("no least", () -> x.zone(0, -1, 5));
            illegal("least above greatest", () -> x.zone(0, 6, 5));
            due("still within", x.cars(0), 1);
            x.call(2, 3);
            due("still not within", x.cars(1), 0);
        });
    }

    private static void sleep() {
        about("5: whether it was", () -> {
            CallSums x = ofCars(1);
            due("awake, stays so", x.sleep(0, false), false);
            due("awake, falls asleep", x.sleep(0, true), false);
            due("asleep, stays so", x.sleep(0, true), true);
            due("asleep, wakes", x.sleep(0, false), true);
            due("awake again", x.sleep(0, false), false);
        });
        about("5: just that car", () -> {
            CallSums x = withCalls(4, 1);
            for (int car = 0; car < 4; car++) {
                x.sleep(car, true);
                due("all but " + car, x.cars(0), 15 - (1 << car));
                x.sleep(car, false);
            }
        });
        about("5: illegal argument, no such car", () -> {
            CallSums x = ofCars(1);
            illegal("the second of one", () -> x.sleep(1, true));
            CallSums y = ofCars(4);
            due("the fourth", y.sleep(3, false), false);
            for (int car : NO_CAR_OF_FOUR) {
                illegal("car " + car + ", asleep", () -> y.sleep(car, true));
                illegal("car " + car + ", awake", () -> y.sleep(car, false));
            }
            for (int car = 0; car < 4; car++) {
                due("nothing changed for " + car, y.sleep(car, true), false);
            }
        });
    }

    private static void calls() {
        about("6: its number", () -> {
            CallSums x = new CallSums(10);
            for (int i = 0; i < 6; i++) {
                due("call " + i, x.call(i, 9), i);
            }
        });
        about("6: since TIME", () -> {
            CallSums x = new CallSums(10);
            atTime(x, 45);
            x.call(0, 1);
            due("at once", x.weight(0), 1);
            x.pass(29);
            due("29 seconds later", x.weight(0), 1);
            x.pass(1);
            due("30 seconds later", x.weight(0), 2);
        });
        about("6: illegal argument, both floors are one", () -> {
            CallSums x = new CallSums(10);
            for (int f = 0; f < 10; f++) {
                int floor = f;
                illegal("floor " + f, () -> x.call(floor, floor));
            }
            due("next to each other is not", x.call(4, 5), 0);
        });
        about("6: illegal argument, a floor is not 0 .. n - 1", () -> {
            CallSums x = new CallSums(10);
            for (int floor : new int[] {-1, 10, 60, LOW, HIGH}) {
                illegal("from " + floor, () -> x.call(floor, 5));
                illegal("to " + floor, () -> x.call(5, floor));
                illegal("both " + floor, () -> x.call(floor, floor));
            }
            due("from the least to the greatest", x.call(0, 9), 0);
            due("from the greatest to the least", x.call(9, 0), 1);
        });
        about("6: illegal state, there are 6 open ones", () -> {
            CallSums x = withCalls(0, 5);
            due("the sixth", x.call(0, 1), 5);
            state("the seventh", () -> x.call(0, 1));
            state("once more", () -> x.call(9, 0));
            x.done(3);
            due("in the place of a done one", x.call(0, 1), 6);
            state("and one more", () -> x.call(0, 1));
        });
        about("6: illegal state, there are 400", () -> {
            CallSums x = new CallSums(10);
            for (int i = 0; i < 399; i++) {
                x.call(0, 1);
                x.done(i);
            }
            due("the 400th", x.call(0, 1), 399);
            state("the 401st", () -> x.call(0, 1));
            x.done(399);
            state("with none open too", () -> x.call(0, 1));
            illegal("illegal argument is named first", () -> x.call(1, 1));
            illegal("there never was call 400", () -> x.carOf(400));
            due("there was call 399", x.carOf(399), NONE);
        });
        about("6: illegal argument is named first", () -> {
            CallSums x = withCalls(0, 6);
            illegal("the seventh, one floor", () -> x.call(4, 4));
            illegal("the seventh, from below", () -> x.call(-1, 4));
            illegal("the seventh, from above", () -> x.call(10, 4));
            illegal("the seventh, to below", () -> x.call(4, -1));
            illegal("the seventh, to above", () -> x.call(4, 10));
        });
        about("6: a refused call takes no number", () -> {
            CallSums x = new CallSums(10);
            illegal("one floor", () -> x.call(1, 1));
            illegal("above", () -> x.call(1, 10));
            due("open", x.open(), 0);
            due("the first", x.call(1, 2), 0);
            for (int i = 1; i < 6; i++) {
                x.call(1, 2);
            }
            state("the seventh", () -> x.call(1, 2));
            due("six open", x.open(), 6);
            illegal("there never was call 6", () -> x.carOf(6));
            x.done(0);
            due("the next", x.call(1, 2), 6);
        });
    }

    private static void urgent() {
        about("7: whether it was", () -> {
            CallSums x = withCalls(0, 1);
            due("not at first, stays so", x.urgent(0, false), false);
            due("was not, is", x.urgent(0, true), false);
            due("was, stays so", x.urgent(0, true), true);
            due("was, is not", x.urgent(0, false), true);
            due("is not", x.urgent(0, false), false);
        });
        about("7: just that call", () -> {
            CallSums x = withCalls(0, 6);
            x.urgent(3, true);
            for (int i = 0; i < 6; i++) {
                due("call " + i, x.urgent(i, false), i == 3);
            }
        });
        about("7: illegal argument, it is not open", () -> {
            CallSums x = withCalls(0, 3);
            x.done(1);
            for (int call : new int[] {1, 3, -1, 400, LOW, HIGH}) {
                illegal("call " + call + " is", () -> x.urgent(call, true));
                illegal("call " + call + " is not", () -> x.urgent(call, false));
            }
            due("nothing changed for 0", x.urgent(0, false), false);
            due("nothing changed for 2", x.urgent(2, false), false);
        });
        about("7: a call in the place of a done one is not urgent", () -> {
            CallSums x = withCalls(0, 6);
            x.urgent(5, true);
            x.done(5);
            due("call 6", x.urgent(x.call(0, 1), false), false);
        });
    }

    private static void begin() {
        about("8: illegal argument, it is not open", () -> {
            CallSums x = withCalls(1, 2);
            x.done(0);
            for (int call : new int[] {0, 2, -1, 400, LOW, HIGH}) {
                illegal("call " + call + " by 0", () -> x.begin(call, 0));
                illegal("call " + call + " by NONE", () -> x.begin(call, NONE));
            }
            due("nothing changed", x.begin(1, 0), true);
        });
        about("8: illegal argument, no such car", () -> {
            CallSums x = withCalls(1, 1);
            illegal("the second of one", () -> x.begin(0, 1));
            CallSums y = withCalls(4, 1);
            for (int car : new int[] {4, 5, -2, -3, LOW, HIGH}) {
                illegal("car " + car, () -> y.begin(0, car));
            }
            due("nothing changed", y.cars(0), 15);
            due("the fourth", y.begin(0, 3), true);
            due("it has begun it", y.cars(0), 8);
        });
        about("8: false, one of its floors is not in the car's zone", () -> {
            CallSums x = ofCars(2);
            x.call(2, 6);
            x.call(6, 2);
            for (int call = 0; call < 2; call++) {
                x.zone(0, 3, 9);
                due("2 is below, call " + call, x.begin(call, 0), false);
                x.zone(0, 0, 5);
                due("6 is above, call " + call, x.begin(call, 0), false);
                x.zone(0, 7, 9);
                due("both are below, call " + call, x.begin(call, 0), false);
                due("nothing changed for " + call, x.cars(call), 2);
                x.zone(0, 2, 6);
                due("both are on the edges, call " + call, x.begin(call, 0), true);
                due("begun, call " + call, x.cars(call), 1);
                x.begin(call, NONE);
            }
        });
        about("8: false changes nothing, another car has begun it", () -> {
            CallSums x = withCalls(2, 2);
            x.begin(0, 1);
            x.zone(0, 7, 9);
            due("not in the zone", x.begin(0, 0), false);
            due("1 has it still", x.cars(0), 2);
            due("and no other", x.begin(1, 1), false);
            x.zone(0, 0, 9);
            x.begin(1, 0);
            due("0 has begun another", x.begin(0, 0), false);
            due("1 has it", x.cars(0), 2);
            due("0 has the other", x.cars(1), 1);
        });
        about("8: false, the car has begun another one", () -> {
            CallSums x = withCalls(1, 6);
            due("the first", x.begin(5, 0), true);
            for (int call = 0; call < 5; call++) {
                due("call " + call, x.begin(call, 0), false);
            }
        });
        about("8: a call that the car itself has begun is no other one", () -> {
            CallSums x = withCalls(2, 1);
            x.begin(0, 0);
            due("again", x.begin(0, 0), true);
            due("it has it", x.cars(0), 1);
            x.zone(0, 3, 9);
            due("not in its zone any more", x.begin(0, 0), false);
            due("begun still, and not taken", x.cars(0), 0);
            x.zone(0, 0, 9);
            due("it may take it again", x.cars(0), 1);
        });
        about("8: that of another car is over then", () -> {
            CallSums x = withCalls(2, 2);
            x.begin(0, 0);
            due("by 1", x.begin(0, 1), true);
            due("just 1 has it", x.cars(0), 2);
            due("0 may begin another", x.begin(1, 0), true);
        });
        about("8: NONE, begun no more, true", () -> {
            CallSums x = withCalls(2, 2);
            x.begin(0, 1);
            due("it was", x.begin(0, NONE), true);
            due("both may take it", x.cars(0), 3);
            due("1 may begin another", x.begin(1, 1), true);
            due("it was not", x.begin(0, NONE), true);
            due("the other is begun still", x.cars(1), 2);
        });
        about("8: NONE is no car whose zone matters", () -> {
            CallSums x = withCalls(0, 1);
            due("without any car", x.begin(0, NONE), true);
            x.car(0, 1);
            x.begin(0, 0);
            x.zone(0, 8, 9);
            due("not in the zone", x.begin(0, NONE), true);
            x.car(0, 1);
            due("another may take it", x.cars(0), 2);
        });
        about("8: several may be begun by NONE", () -> {
            CallSums x = withCalls(1, 3);
            for (int call = 0; call < 3; call++) {
                due("call " + call, x.begin(call, NONE), true);
            }
        });
        about("8: a done one is no other one", () -> {
            CallSums x = withCalls(1, 2);
            x.begin(0, 0);
            x.done(0);
            due("the car may begin another", x.begin(1, 0), true);
        });
        about("8: a car that is asleep may begin", () -> {
            CallSums x = withCalls(2, 1);
            x.sleep(0, true);
            due("asleep", x.begin(0, 0), true);
            due("just that car", x.cars(0), 1);
        });
        about("8: a car may begin what it could not be given", () -> {
            CallSums x = withCalls(4, 4);
            for (int car = 0; car < 4; car++) {
                due("call " + (3 - car), x.begin(3 - car, car), true);
            }
            for (int car = 0; car < 4; car++) {
                due("just " + car, x.cars(3 - car), 1 << car);
            }
        });
        about("8: a call in the place of a done one is not begun", () -> {
            CallSums x = withCalls(2, 6);
            x.begin(5, 1);
            x.done(5);
            due("call 6", x.cars(x.call(0, 1)), 3);
        });
    }

    private static void done() {
        about("9: illegal argument, it is not open", () -> {
            CallSums x = withCalls(0, 3);
            x.done(1);
            for (int call : new int[] {1, 3, -1, 400, LOW, HIGH}) {
                illegal("call " + call, () -> x.done(call));
            }
            due("nothing changed", x.open(), 2);
            due("0 is open", x.weight(0), 1);
            due("2 is open", x.weight(2), 1);
        });
        about("9: the first, the last, the only one", () -> {
            CallSums x = withCalls(0, 3);
            x.done(0);
            due("two", x.open(), 2);
            x.done(2);
            due("one", x.open(), 1);
            due("the middle one", x.weight(1), 1);
            x.done(1);
            due("none", x.open(), 0);
            illegal("none is left", () -> x.done(1));
        });
        about("9: all six in any order, and six anew", () -> {
            CallSums x = withCalls(0, 6);
            for (int call : new int[] {2, 5, 0, 1, 4, 3}) {
                x.done(call);
                illegal("call " + call, () -> x.weight(call));
            }
            due("none is open", x.open(), 0);
            for (int i = 6; i < 12; i++) {
                due("call " + i, x.call(0, 1), i);
            }
            state("six are open", () -> x.call(0, 1));
        });
        about("9: a done one is not open for any call", () -> {
            CallSums x = withCalls(1, 1);
            x.done(0);
            illegal("urgent", () -> x.urgent(0, true));
            illegal("begin", () -> x.begin(0, 0));
            illegal("done", () -> x.done(0));
            illegal("cars", () -> x.cars(0));
            illegal("weight", () -> x.weight(0));
            due("carOf knows it", x.carOf(0), NONE);
            due("told knows it", x.told(0, 0), NONE);
        });
    }

    private static void pass() {
        about("10: illegal argument, n is not 1 .. 1000", () -> {
            CallSums x = new CallSums(10);
            for (int n : new int[] {0, -1, 1001, -1000, 100000, LOW, HIGH}) {
                illegal("n is " + n, () -> x.pass(n));
            }
            due("1", x.pass(1), 1);
            due("1000", x.pass(1000), 1001);
            due("999", x.pass(999), 2000);
        });
        about("10: illegal argument, it would be above 100000", () -> {
            CallSums x = new CallSums(10);
            atTime(x, 99001);
            illegal("100001", () -> x.pass(1000));
            due("100000", x.pass(999), 100000);
            illegal("1 above", () -> x.pass(1));
            illegal("1000 above", () -> x.pass(1000));
        });
        about("10: 100000 in one step of 1000 and in one of 1", () -> {
            CallSums x = new CallSums(10);
            atTime(x, 99000);
            due("1000", x.pass(1000), 100000);
            CallSums y = new CallSums(10);
            atTime(y, 99999);
            illegal("2", () -> y.pass(2));
            due("1", y.pass(1), 100000);
        });
        about("10: no sum wraps around", () -> {
            CallSums x = new CallSums(10);
            atTime(x, 100000);
            illegal("the highest", () -> x.pass(HIGH));
            illegal("to the lowest", () -> x.pass(HIGH - 99999));
            illegal("the lowest", () -> x.pass(LOW));
        });
        about("10: a refused one lets no time pass", () -> {
            CallSums x = withCalls(0, 1);
            x.pass(29);
            illegal("0", () -> x.pass(0));
            illegal("1001", () -> x.pass(1001));
            due("the weight", x.weight(0), 1);
            due("TIME", x.pass(1), 30);
            atTime(x, 99965);
            illegal("above 100000", () -> x.pass(6));
            due("TIME at the end", x.pass(5), 100000);
        });
    }
}
