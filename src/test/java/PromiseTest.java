/** Each promise by itself, with answers reckoned by hand from the document. */
final class PromiseTest {
    private static final int NONE = CallSums.NONE;
    private static final int LOW = Integer.MIN_VALUE;
    private static final int HIGH = Integer.MAX_VALUE;

    private final Checks checks = new Checks();

    public static void main(String[] args) {
        PromiseTest test = new PromiseTest();
        test.newObject();
        test.car();
        test.free();
        test.zone();
        test.sleep();
        test.call();
        test.callsInAll();
        test.urgent();
        test.begin();
        test.done();
        test.pass();
        test.giveSums();
        test.giveTies();
        test.giveBegun();
        test.giveLarge();
        test.carOf();
        test.turn();
        test.told();
        test.left();
        test.cars();
        test.open();
        test.weight();
        test.checks.end("PromiseTest");
    }

    private void due(String what, long got, long want) {
        checks.due(what, got, want);
    }

    private void due(String what, boolean got, boolean want) {
        checks.due(what, got, want);
    }

    private void illegal(String what, Runnable call) {
        checks.illegalArgument(what, call);
    }

    /** Promise 1. */
    private void newObject() {
        due("1: NONE", CallSums.NONE, -1);
        int[][] floorsOf = {{LOW, 2}, {-1, 2}, {0, 2}, {1, 2}, {2, 2}, {3, 3}, {59, 59}, {60, 60}, {61, 60}, {HIGH, 60}};
        for (int[] pair : floorsOf) {
            CallSums x = new CallSums(pair[0]);
            String name = "1: of " + pair[0] + " floors, ";
            illegal(name + "above", () -> x.call(0, pair[1]));
            due(name + "topmost", x.call(0, pair[1] - 1), 0);
            due(name + "call's cars", x.cars(0), 0);
            illegal(name + "no car", () -> x.sleep(0, false));
            illegal(name + "no row", () -> x.turn(0, 0));
            due(name + "TIME", x.pass(1), 1);
        }
        CallSums x = new CallSums(5);
        due("1: open", x.open(), 0);
        due("1: left", x.left(), 0);
        due("1: give", x.give(), 0);
    }

    /** Promise 2. */
    private void car() {
        CallSums x = new CallSums(10);
        illegal("2: floor 10", () -> x.car(10, 1));
        illegal("2: floor -1", () -> x.car(-1, 1));
        illegal("2: speed 0", () -> x.car(0, 0));
        illegal("2: speed 6", () -> x.car(0, 6));
        illegal("2: lowest", () -> x.car(LOW, LOW));
        illegal("2: highest", () -> x.car(HIGH, HIGH));
        x.pass(50);
        due("2: first", x.car(4, 3), 0);
        x.call(4, 6);
        due("2: free at once", x.give(), 9);
        due("2: zone at first is all", x.cars(x.call(0, 9)), 1);
        due("2: awake at first", x.sleep(0, false), false);
        due("2: second", x.car(0, 1), 1);
        due("2: third", x.car(9, 5), 2);
        due("2: fourth", x.car(0, 1), 3);
        checks.illegalState("2: fifth", () -> x.car(0, 1));
        illegal("2: fifth at no floor", () -> x.car(10, 1));
        illegal("2: fifth of no speed", () -> x.car(0, 6));
        due("2: four cars", x.cars(0), 15);
    }

    /** Promise 3. */
    private void free() {
        CallSums x = new CallSums(10);
        x.car(0, 2);
        x.call(3, 7);
        x.free(0, 5, 0);
        due("3: at 5", x.give(), 4 + 15);
        x.free(0, 5, 10);
        due("3: at 5 from 10 on", x.give(), 14 + 25);
        x.pass(30);
        due("3: from a second before TIME on", x.give(), 2 * 4 + 15);
        x.free(0, 3, 100000);
        due("3: from 100000 on", x.give(), 2 * 99970 + 99981);
        x.free(0, 9, 31);
        due("3: at 9 from 31 on", x.give(), 2 * 13 + 24);
        illegal("3: car 1", () -> x.free(1, 0, 0));
        illegal("3: car -1", () -> x.free(-1, 0, 0));
        illegal("3: floor 10", () -> x.free(0, 10, 0));
        illegal("3: floor -1", () -> x.free(0, -1, 0));
        illegal("3: second -1", () -> x.free(0, 0, -1));
        illegal("3: second 100001", () -> x.free(0, 0, 100001));
        illegal("3: highest", () -> x.free(HIGH, HIGH, HIGH));
        illegal("3: lowest", () -> x.free(LOW, LOW, LOW));
        due("3: nothing changed", x.give(), 2 * 13 + 24);
        x.free(0, 0, 31);
        due("3: at 0 from 31 on", x.give(), 2 * 7 + 18);
    }

    /** Promise 4. */
    private void zone() {
        CallSums x = new CallSums(10);
        x.car(0, 1);
        x.car(0, 1);
        x.call(2, 6);
        x.call(6, 2);
        x.zone(0, 2, 6);
        due("4: just its floors", x.cars(0), 3);
        due("4: just its floors, down", x.cars(1), 3);
        x.zone(0, 3, 6);
        due("4: from is below", x.cars(0), 2);
        due("4: to is below", x.cars(1), 2);
        x.zone(0, 2, 5);
        due("4: to is above", x.cars(0), 2);
        due("4: from is above", x.cars(1), 2);
        x.zone(1, 6, 6);
        due("4: no car", x.cars(0), 0);
        x.zone(0, 0, 9);
        due("4: all again", x.cars(0), 1);
        illegal("4: car 2", () -> x.zone(2, 3, 4));
        illegal("4: car -1", () -> x.zone(-1, 3, 4));
        illegal("4: least -1", () -> x.zone(0, -1, 4));
        illegal("4: least 10", () -> x.zone(0, 10, 10));
        illegal("4: greatest 10", () -> x.zone(0, 3, 10));
        illegal("4: greatest -1", () -> x.zone(0, -1, -1));
        illegal("4: least above greatest", () -> x.zone(0, 4, 3));
        illegal("4: lowest", () -> x.zone(LOW, LOW, LOW));
        illegal("4: highest", () -> x.zone(HIGH, HIGH, HIGH));
        due("4: nothing changed", x.cars(0), 1);
    }

    /** Promise 5. */
    private void sleep() {
        CallSums x = new CallSums(10);
        x.car(0, 1);
        x.car(9, 1);
        x.call(0, 1);
        due("5: was awake", x.sleep(0, true), false);
        due("5: only the one awake", x.cars(0), 2);
        due("5: was asleep", x.sleep(0, true), true);
        due("5: both asleep", x.sleep(1, true), false);
        due("5: both", x.cars(0), 3);
        due("5: the near one", x.give(), 0 + 4);
        due("5: was asleep, is awake", x.sleep(1, false), true);
        due("5: is awake", x.sleep(1, false), false);
        due("5: the far one", x.give(), 9 + 13);
        x.zone(1, 5, 9);
        due("5: the one awake may not", x.cars(0), 1);
        illegal("5: car 2", () -> x.sleep(2, true));
        illegal("5: car -1", () -> x.sleep(-1, true));
        illegal("5: lowest", () -> x.sleep(LOW, true));
        illegal("5: highest", () -> x.sleep(HIGH, false));
    }

    /** Promise 6. */
    private void call() {
        CallSums x = new CallSums(10);
        illegal("6: from -1", () -> x.call(-1, 0));
        illegal("6: from 10", () -> x.call(10, 0));
        illegal("6: to -1", () -> x.call(0, -1));
        illegal("6: to 10", () -> x.call(0, 10));
        illegal("6: one floor", () -> x.call(4, 4));
        illegal("6: lowest", () -> x.call(LOW, LOW));
        illegal("6: highest", () -> x.call(HIGH, HIGH));
        due("6: first", x.call(0, 9), 0);
        x.pass(29);
        due("6: second", x.call(9, 0), 1);
        x.pass(1);
        due("6: since 0", x.weight(0), 2);
        due("6: since 29", x.weight(1), 1);
        due("6: third", x.call(4, 3), 2);
        due("6: fourth", x.call(4, 3), 3);
        due("6: fifth", x.call(4, 3), 4);
        due("6: sixth", x.call(4, 3), 5);
        checks.illegalState("6: seventh", () -> x.call(4, 3));
        illegal("6: seventh, one floor", () -> x.call(4, 4));
        illegal("6: seventh, no floor", () -> x.call(10, 4));
        due("6: six are open", x.open(), 6);
        x.done(2);
        due("6: the next number", x.call(1, 2), 6);
        checks.illegalState("6: six again", () -> x.call(4, 3));
    }

    /** Promise 6: no 512 calls come to the 400th, but the number stands in the document. */
    private void callsInAll() {
        CallSums x = new CallSums(10);
        for (int i = 0; i < 400; i++) {
            due("6: call " + i, x.call(0, 1), i);
            x.done(i);
        }
        checks.illegalState("6: call 400", () -> x.call(0, 1));
        illegal("6: call 400, one floor", () -> x.call(1, 1));
    }

    /** Promise 7. */
    private void urgent() {
        CallSums x = new CallSums(10);
        x.call(0, 1);
        x.call(0, 1);
        due("7: was not", x.urgent(0, true), false);
        due("7: was", x.urgent(0, true), true);
        due("7: four times", x.weight(0), 4);
        due("7: the other one", x.weight(1), 1);
        x.pass(60);
        due("7: four times 3", x.weight(0), 12);
        due("7: is not", x.urgent(0, false), true);
        due("7: was not again", x.urgent(0, false), false);
        due("7: once", x.weight(0), 3);
        illegal("7: call 2", () -> x.urgent(2, true));
        illegal("7: call -1", () -> x.urgent(-1, true));
        illegal("7: lowest", () -> x.urgent(LOW, true));
        illegal("7: highest", () -> x.urgent(HIGH, false));
        x.done(0);
        illegal("7: a done one", () -> x.urgent(0, false));
    }

    /** Promise 8. */
    private void begin() {
        CallSums x = new CallSums(10);
        x.car(0, 1);
        x.car(0, 1);
        x.call(2, 6);
        x.call(6, 2);
        illegal("8: call 2", () -> x.begin(2, 0));
        illegal("8: call -1", () -> x.begin(-1, NONE));
        illegal("8: car 2", () -> x.begin(0, 2));
        illegal("8: car -2", () -> x.begin(0, -2));
        illegal("8: lowest", () -> x.begin(LOW, LOW));
        illegal("8: car lowest", () -> x.begin(0, LOW));
        illegal("8: highest", () -> x.begin(HIGH, HIGH));
        illegal("8: car highest", () -> x.begin(0, HIGH));
        due("8: begun by none, by none", x.begin(0, NONE), true);
        due("8: begun by 0", x.begin(0, 0), true);
        due("8: has just that car", x.cars(0), 1);
        due("8: begun by 0 again", x.begin(0, 0), true);
        due("8: 0 has begun another", x.begin(1, 0), false);
        due("8: that changed nothing", x.cars(1), 3);
        due("8: begun by 1 now", x.begin(0, 1), true);
        due("8: has just 1", x.cars(0), 2);
        due("8: that of 0 is over", x.begin(1, 0), true);
        due("8: 1 has begun another", x.begin(1, 1), false);
        due("8: still begun by 0", x.cars(1), 1);
        due("8: begun no more", x.begin(1, NONE), true);
        due("8: has both", x.cars(1), 3);
        x.zone(0, 3, 6);
        due("8: 2 is not in the zone", x.begin(1, 0), false);
        due("8: it is not, of the one begun by 1", x.begin(0, 0), false);
        due("8: that one is still begun by 1", x.cars(0), 2);
        x.zone(0, 2, 5);
        due("8: 6 is not in the zone", x.begin(1, 0), false);
        x.sleep(1, true);
        due("8: its car alone, asleep too", x.cars(0), 2);
        x.zone(1, 0, 5);
        x.zone(0, 0, 9);
        due("8: its car may not take it", x.cars(0), 0);
        due("8: 1 has begun it still", x.begin(x.call(0, 1), 1), false);
        x.zone(1, 0, 9);
        due("8: its car may again", x.cars(0), 2);
        x.done(0);
        illegal("8: a done one", () -> x.begin(0, NONE));
        due("8: a done one is no other", x.begin(1, 1), true);
    }

    /** Promise 9. */
    private void done() {
        CallSums x = new CallSums(10);
        illegal("9: none yet", () -> x.done(0));
        x.car(0, 1);
        for (int i = 0; i < 6; i++) {
            x.call(i, i + 1);
        }
        x.give();
        x.done(3);
        due("9: five are open", x.open(), 5);
        illegal("9: done twice", () -> x.done(3));
        illegal("9: its weight", () -> x.weight(3));
        illegal("9: its cars", () -> x.cars(3));
        illegal("9: call 6", () -> x.done(6));
        illegal("9: call -1", () -> x.done(-1));
        illegal("9: lowest", () -> x.done(LOW));
        illegal("9: highest", () -> x.done(HIGH));
        due("9: the giving stays", x.carOf(3), 0);
        due("9: its row stays", x.turn(0, 3), 3);
        x.done(0);
        x.done(5);
        due("9: three are open", x.open(), 3);
        due("9: of the others one is", x.cars(4), 1);
        x.give();
        due("9: not given any more", x.carOf(3), NONE);
        due("9: the row of the others", x.turn(0, 0) * 100 + x.turn(0, 1) * 10 + x.turn(0, 2), 124);
        due("9: no more of them", x.turn(0, 3), NONE);
    }

    /** Promise 10. */
    private void pass() {
        CallSums x = new CallSums(10);
        illegal("10: 0", () -> x.pass(0));
        illegal("10: -1", () -> x.pass(-1));
        illegal("10: 1001", () -> x.pass(1001));
        illegal("10: lowest", () -> x.pass(LOW));
        illegal("10: highest", () -> x.pass(HIGH));
        due("10: 1", x.pass(1), 1);
        due("10: 1000", x.pass(1000), 1001);
        for (int i = 2; i < 100; i++) {
            x.pass(1000);
        }
        illegal("10: above 100000", () -> x.pass(1000));
        due("10: to 99999", x.pass(998), 99999);
        illegal("10: 2 above", () -> x.pass(2));
        due("10: to 100000", x.pass(1), 100000);
        illegal("10: 1 above", () -> x.pass(1));
    }

    /** Promise 11: PICK, SET, WEIGHT, COST and THE SUM. */
    private void giveSums() {
        CallSums x = new CallSums(10);
        due("11: nothing", x.give(), 0);
        x.call(3, 7);
        due("11: no cars", x.give(), 0);
        x.car(0, 2);
        due("11: one call", x.give(), 6 + 17);
        x.pass(60);
        x.urgent(0, true);
        due("11: weighed by 12", x.give(), 12 * 6 + 17);
        x.urgent(0, false);
        x.call(1, 0);
        // 1 first: 2 + 7, then leaves floor 0 at 10: 3 * 16 + 27; 0 first: 3 * 6 + 17, leaves 7 at 20: 32 + 37
        due("11: the later one first", x.give(), 9 + 75);
        due("11: its row", x.turn(0, 0), 1);
        x.urgent(0, true);
        // 1 first: 9 + 12 * 16 + 27; 0 first: 12 * 6 + 17 + 32 + 37
        due("11: the urgent one first", x.give(), 89 + 69);
        due("11: its row then", x.turn(0, 0), 0);
        x.car(9, 5);
        // 1 by car 1: 40 + 48; 0 by car 1: 12 * 30 + 53
        due("11: two cars are no better", x.give(), 158);
        x.car(1, 5);
        // 1 by car 2: 0 + 8; 0 by car 2: 12 * 10 + 33
        due("11: one each", x.give(), 89 + 8);
        due("11: the second one has car 2", x.carOf(1), 2);
        x.zone(0, 0, 6);
        // 0 by car 1: 413, by car 2: 153; 1 by car 0: 2 + 7
        due("11: 0 is out of car 0's zone", x.give(), 153 + 9);
        x.sleep(2, true);
        due("11: car 2 is asleep", x.give(), 413 + 9);
    }

    /** Promise 11: of several givings of one sum. */
    private void giveTies() {
        CallSums x = new CallSums(10);
        x.car(5, 1);
        x.car(5, 1);
        x.car(5, 1);
        x.call(5, 6);
        x.call(5, 4);
        due("11: two alike, the sum", x.give(), 8);
        due("11: the first call has the least car", x.carOf(0), 0);
        due("11: the second one the next", x.carOf(1), 1);
        x.sleep(0, true);
        x.sleep(1, true);
        // one way and the other: 0 + 4, then it leaves floor 6 (4) at 7: 8 + 12
        due("11: a row and its mirror", x.give(), 24);
        due("11: the least call first", x.turn(2, 0), 0);
        due("11: then the other", x.turn(2, 1), 1);

        // two cars in the middle of their own two calls: which call is first is one to each of them
        CallSums y = new CallSums(40);
        y.car(30, 1);
        y.car(10, 1);
        y.zone(0, 20, 39);
        y.zone(1, 0, 19);
        y.call(11, 13);
        y.call(29, 27);
        y.call(31, 33);
        y.call(9, 7);
        // 1 + 6, leaves at 9, five floors away: 13 + 18 (the goals lie 2 off the middle's other side)
        due("11: two mirrored rows", y.give(), 2 * (1 + 6 + 13 + 18));
        due("11: car 0's first", y.turn(0, 0), 1);
        due("11: car 0's second", y.turn(0, 1), 2);
        due("11: car 1's first", y.turn(1, 0), 0);
        due("11: car 1's second", y.turn(1, 1), 3);
        due("11: car 1's third", y.turn(1, 2), NONE);

        // calls that can not be told apart, three to each of two cars
        CallSums z = new CallSums(2);
        z.car(0, 1);
        z.car(0, 1);
        for (int i = 0; i < 6; i++) {
            z.call(0, 1);
        }
        // a row of three: 0 + 4, 8 + 12, 16 + 20
        due("11: six alike", z.give(), 2 * 60);
        for (int i = 0; i < 6; i++) {
            due("11: six alike, the car of " + i, z.carOf(i), i / 3);
            due("11: six alike, the turn of " + i, z.turn(i / 3, i % 3), i);
        }
        due("13: no more of car 0", z.turn(0, 3), NONE);
        due("13: not car 1's", z.turn(0, 6), NONE);
    }

    /** Promise 11: the one that is begun. */
    private void giveBegun() {
        CallSums x = new CallSums(20);
        x.car(0, 1);
        x.car(19, 1);
        x.call(1, 2);
        x.call(18, 17);
        due("11: each by the near one", x.give(), 2 * (1 + 5));
        x.begin(1, 0);
        // 1 first by car 0: 18 + 22; 0 behind it leaves floor 17 at 25: 41 + 45, by car 1: 18 + 22
        due("11: 1 stays with car 0", x.give(), 80);
        due("11: 0 by the other", x.carOf(0), 1);
        x.zone(1, 5, 19);
        due("11: 0 comes behind it", x.give(), 40 + 86);
        due("11: 1 is the first", x.turn(0, 0), 1);
        due("11: 0 is the second", x.turn(0, 1), 0);
        x.sleep(0, true);
        due("11: car 0 asleep", x.give(), 126);
        x.sleep(0, false);
        x.zone(0, 0, 10);
        due("11: 1 is not given", x.give(), 6);
        due("11: 1 is left", x.left(), 1);
        due("11: 1 has no car", x.carOf(1), NONE);
        x.begin(1, NONE);
        due("11: given anew", x.give(), 12);

        CallSums y = new CallSums(20);
        y.car(0, 1);
        y.call(18, 19);
        y.call(1, 2);
        // 1 first: 1 + 5, leaves floor 2 at 8: 24 + 28
        due("11: the near one first", y.give(), 58);
        y.begin(0, 0);
        // 0 first: 18 + 22, leaves floor 19 at 25: 43 + 47
        due("11: the begun one first", y.give(), 130);
        due("11: its row", y.turn(0, 0), 0);
        y.done(0);
        due("11: the other alone", y.give(), 6);
    }

    /** Promise 11: six calls that have waited long, at a car that comes late. */
    private void giveLarge() {
        CallSums x = new CallSums(60);
        x.car(59, 5);
        for (int i = 0; i < 6; i++) {
            x.call(0, 59);
            x.urgent(i, true);
        }
        for (int i = 0; i < 50; i++) {
            x.pass(1000);
        }
        x.free(0, 59, 100000);
        long sum = 0;
        for (int i = 0; i < 6; i++) {
            long pick = 50000 + 295 + 596 * i;
            sum += 6668 * pick + pick + 298;
        }
        due("11: large", x.give(), sum);
        due("11: the last one's SET", x.told(5, 1), 50000 + 295 + 596 * 5 + 298);
        due("11: a weight", x.told(5, 2), 6668);
    }

    /** Promise 12. */
    private void carOf() {
        CallSums x = new CallSums(10);
        illegal("12: no call", () -> x.carOf(0));
        x.car(0, 1);
        x.call(1, 2);
        due("12: none was made", x.carOf(0), NONE);
        x.zone(0, 2, 9);
        x.give();
        due("12: not given", x.carOf(0), NONE);
        x.zone(0, 0, 9);
        due("12: still not", x.carOf(0), NONE);
        x.car(0, 1);
        x.sleep(0, true);
        x.give();
        due("12: given", x.carOf(0), 1);
        x.sleep(0, false);
        x.sleep(1, true);
        x.begin(0, 0);
        due("12: it stays", x.carOf(0), 1);
        x.call(3, 4);
        due("12: one since then", x.carOf(1), NONE);
        x.done(0);
        due("12: a done one", x.carOf(0), 1);
        x.give();
        due("12: a done one, given anew", x.carOf(0), NONE);
        due("12: the other", x.carOf(1), 0);
        illegal("12: call 2", () -> x.carOf(2));
        illegal("12: call -1", () -> x.carOf(-1));
        illegal("12: lowest", () -> x.carOf(LOW));
        illegal("12: highest", () -> x.carOf(HIGH));
    }

    /** Promise 13. */
    private void turn() {
        CallSums x = new CallSums(10);
        x.car(0, 1);
        due("13: none was made", x.turn(0, 0), NONE);
        for (int i = 6; i > 0; i--) {
            x.call(i, i - 1);
        }
        due("13: none was made, of calls", x.turn(0, 0), NONE);
        x.free(0, 9, 0);
        x.give();
        for (int k = 0; k < 6; k++) {
            due("13: from the top, " + k, x.turn(0, k), k);
        }
        due("13: no more", x.turn(0, 6), NONE);
        due("13: far more", x.turn(0, HIGH), NONE);
        x.car(9, 1);
        due("13: a car since then", x.turn(1, 0), NONE);
        x.done(0);
        x.done(2);
        due("13: done ones stay", x.turn(0, 2), 2);
        x.zone(0, 0, 0);
        due("13: it stays", x.turn(0, 5), 5);
        x.give();
        due("13: none for car 0", x.turn(0, 0), NONE);
        int[] row = {1, 3, 4, 5, NONE, NONE};
        for (int k = 0; k < 6; k++) {
            due("13: for car 1, " + k, x.turn(1, k), row[k]);
        }
        illegal("13: k -1", () -> x.turn(0, -1));
        illegal("13: k lowest", () -> x.turn(0, LOW));
        illegal("13: car 2", () -> x.turn(2, 0));
        illegal("13: car 4", () -> x.turn(4, 0));
        illegal("13: car -1", () -> x.turn(-1, 0));
        illegal("13: car lowest", () -> x.turn(LOW, 0));
        illegal("13: car highest", () -> x.turn(HIGH, 0));
    }

    /** Promise 14. */
    private void told() {
        CallSums x = new CallSums(10);
        illegal("14: no call", () -> x.told(0, 0));
        x.car(0, 2);
        x.call(3, 7);
        x.call(9, 1);
        for (int what = 0; what < 3; what++) {
            due("14: none was made, " + what, x.told(0, what), NONE);
        }
        x.pass(30);
        x.urgent(1, true);
        x.free(0, 0, 40);
        // 0 first: 2 * 16 + 27, leaves floor 7 at 30: 8 * 34 + 53; 1 first: 8 * 28 + 47, 50: 2 * 54 + 65
        due("14: the sum", x.give(), 384);
        due("14: 0's PICK", x.told(0, 0), 16);
        due("14: 0's SET", x.told(0, 1), 27);
        due("14: 0's WEIGHT", x.told(0, 2), 2);
        due("14: 1's PICK", x.told(1, 0), 34);
        due("14: 1's SET", x.told(1, 1), 53);
        due("14: 1's WEIGHT", x.told(1, 2), 8);
        x.pass(90);
        x.urgent(1, false);
        x.free(0, 3, 0);
        x.call(1, 2);
        x.done(1);
        due("14: as of then, PICK", x.told(1, 0), 34);
        due("14: as of then, SET", x.told(1, 1), 53);
        due("14: as of then, WEIGHT", x.told(1, 2), 8);
        due("14: one since then", x.told(2, 2), NONE);
        x.zone(0, 3, 9);
        x.give();
        for (int what = 0; what < 3; what++) {
            due("14: not given, " + what, x.told(2, what), NONE);
            due("14: done, " + what, x.told(1, what), NONE);
        }
        due("14: anew, PICK", x.told(0, 0), 0);
        due("14: anew, SET", x.told(0, 1), 11);
        due("14: anew, WEIGHT", x.told(0, 2), 5);
        illegal("14: what -1", () -> x.told(0, -1));
        illegal("14: what 3", () -> x.told(0, 3));
        illegal("14: what 3, not given", () -> x.told(2, 3));
        illegal("14: call 3", () -> x.told(3, 0));
        illegal("14: call -1", () -> x.told(-1, 0));
        illegal("14: lowest", () -> x.told(LOW, LOW));
        illegal("14: highest", () -> x.told(HIGH, HIGH));
    }

    /** Promise 15. */
    private void left() {
        CallSums x = new CallSums(10);
        due("15: none is open", x.left(), 0);
        x.call(0, 1);
        x.call(8, 9);
        due("15: no cars", x.left(), 2);
        x.car(0, 1);
        due("15: all have one", x.left(), 0);
        x.zone(0, 0, 8);
        due("15: one has none", x.left(), 1);
        x.sleep(0, true);
        due("15: one has one asleep", x.left(), 1);
        x.begin(0, 0);
        due("15: a begun one has its car", x.left(), 1);
        x.zone(0, 1, 9);
        due("15: its car may not take it", x.left(), 1);
        x.car(0, 1);
        due("15: another may not either", x.left(), 1);
        x.begin(0, NONE);
        due("15: another may", x.left(), 0);
        x.zone(0, 5, 5);
        x.zone(1, 5, 5);
        due("15: two", x.left(), 2);
        x.done(0);
        due("15: a done one is not left", x.left(), 1);
    }

    /** Promise 16. */
    private void cars() {
        CallSums x = new CallSums(10);
        illegal("16: no call", () -> x.cars(0));
        x.call(2, 6);
        due("16: no car", x.cars(0), 0);
        for (int i = 0; i < 4; i++) {
            x.car(0, 1);
            due("16: of " + (i + 1), x.cars(0), (2 << i) - 1);
        }
        x.sleep(1, true);
        due("16: 1 is asleep", x.cars(0), 13);
        x.zone(0, 3, 9);
        due("16: 0 may not", x.cars(0), 12);
        x.begin(0, 3);
        due("16: begun by 3", x.cars(0), 8);
        x.begin(0, 1);
        due("16: begun by one asleep", x.cars(0), 2);
        x.begin(0, NONE);
        x.sleep(2, true);
        x.sleep(3, true);
        x.sleep(0, true);
        due("16: all asleep", x.cars(0), 14);
        x.sleep(0, false);
        due("16: one awake that may not", x.cars(0), 14);
        illegal("16: call 1", () -> x.cars(1));
        illegal("16: call -1", () -> x.cars(-1));
        illegal("16: lowest", () -> x.cars(LOW));
        illegal("16: highest", () -> x.cars(HIGH));
        x.done(0);
        illegal("16: a done one", () -> x.cars(0));
    }

    /** Promise 17. */
    private void open() {
        CallSums x = new CallSums(10);
        for (int i = 0; i < 6; i++) {
            due("17: before call " + i, x.open(), i);
            x.call(0, 1);
        }
        due("17: six", x.open(), 6);
        for (int i = 5; i >= 0; i--) {
            x.done(i);
            due("17: after call " + i, x.open(), i);
        }
    }

    /** Promise 18. */
    private void weight() {
        CallSums x = new CallSums(10);
        illegal("18: no call", () -> x.weight(0));
        x.pass(17);
        x.call(0, 1);
        due("18: at once", x.weight(0), 1);
        x.pass(29);
        due("18: behind 29 seconds", x.weight(0), 1);
        x.pass(1);
        due("18: behind 30", x.weight(0), 2);
        x.urgent(0, true);
        due("18: urgent", x.weight(0), 8);
        x.pass(29);
        due("18: behind 59", x.weight(0), 8);
        x.pass(1);
        due("18: behind 60", x.weight(0), 12);
        illegal("18: call 1", () -> x.weight(1));
        illegal("18: call -1", () -> x.weight(-1));
        illegal("18: lowest", () -> x.weight(LOW));
        illegal("18: highest", () -> x.weight(HIGH));
        x.done(0);
        illegal("18: a done one", () -> x.weight(0));
    }
}
