import java.util.ArrayList;
import java.util.List;

/** A call that throws, and a begin that answers false, changes nothing: the object answers as its twin does. */
final class RefusalTest {
    private static final int FLOORS = 10;

    private interface Use {
        void of(CallSums x);
    }

    private record Refused(String name, boolean argument, Use use) {
    }

    /** What an object has been through, and what it holds by that. */
    private record State(String name, int cars, int calls, int done, boolean full, boolean late, Use use) {
        CallSums make() {
            CallSums x = new CallSums(FLOORS);
            use.of(x);
            return x;
        }
    }

    private static final Checks CHECKS = new Checks();

    public static void main(String[] args) {
        for (State state : List.of(
                new State("new", 0, 0, 0, false, false, x -> { }),
                new State("cars alone", 2, 0, 0, false, false, x -> cars(x, 2)),
                new State("calls alone", 0, 3, 1, false, false, x -> calls(x, 3)),
                new State("some of both", 2, 4, 1, false, false, RefusalTest::some),
                new State("full", 4, 7, 1, true, false, RefusalTest::full),
                new State("at the end of TIME", 4, 7, 1, true, true, RefusalTest::late))) {
            CHECKS.about("In all calls, " + state.name, () -> refuse(state));
        }
        CHECKS.about("8: begin answers false", RefusalTest::begunByAnother);
        CHECKS.end("RefusalTest");
    }

    private static void cars(CallSums x, int count) {
        for (int i = 0; i < count; i++) {
            x.car(3 * i, 1 + i);
        }
    }

    /** Call 0 is done, the others are open. */
    private static void calls(CallSums x, int count) {
        x.call(0, 9);
        x.done(0);
        for (int i = 1; i < count; i++) {
            x.call(i, 9 - i);
            x.pass(20);
        }
    }

    private static void some(CallSums x) {
        cars(x, 2);
        calls(x, 3);
        x.give();
        x.begin(1, 1);
        x.urgent(2, true);
        x.call(9, 8);
        x.zone(0, 0, 8);
        x.free(1, 5, 90);
    }

    private static void full(CallSums x) {
        cars(x, 4);
        calls(x, 5);
        x.call(0, 1);
        x.call(5, 2);
        x.begin(2, 3);
        x.give();
        x.sleep(2, true);
        x.urgent(1, true);
        x.zone(1, 1, 7);
        x.free(0, 4, 200);
    }

    private static void late(CallSums x) {
        full(x);
        for (int i = 0; i < 99; i++) {
            x.pass(1000);
        }
        x.pass(919);
    }

    private static void refuse(State state) {
        List<Refused> all = new ArrayList<>();
        refusedCars(all, state);
        refusedCalls(all, state);
        refusedQuestions(all, state);
        for (Refused refused : all) {
            CallSums x = state.make();
            if (refused.argument) {
                CHECKS.illegalArgument(refused.name, () -> refused.use.of(x));
            } else {
                CHECKS.illegalState(refused.name, () -> refused.use.of(x));
            }
            alike(refused.name, x, state.make(), state.cars, state.calls);
        }
    }

    private static void argument(List<Refused> all, String name, Use use) {
        all.add(new Refused(name, true, use));
    }

    private static void refusedCars(List<Refused> all, State state) {
        int none = state.cars;
        argument(all, "car below", x -> x.car(-1, 1));
        argument(all, "car above", x -> x.car(FLOORS, 1));
        argument(all, "car too fast", x -> x.car(0, 0));
        argument(all, "car too slow", x -> x.car(0, 6));
        argument(all, "free of none", x -> x.free(none, 9, 7));
        argument(all, "zone of none", x -> x.zone(none, 2, 3));
        argument(all, "sleep of none", x -> x.sleep(none, true));
        if (state.full) {
            all.add(new Refused("fifth car", false, x -> x.car(9, 1)));
        }
        for (int i = 0; i < state.cars; i++) {
            int car = i;
            argument(all, "free below", x -> x.free(car, -1, 7));
            argument(all, "free above", x -> x.free(car, FLOORS, 7));
            argument(all, "free too early", x -> x.free(car, 9, -1));
            argument(all, "free too late", x -> x.free(car, 9, 100001));
            argument(all, "zone from below", x -> x.zone(car, -1, 3));
            argument(all, "zone from above", x -> x.zone(car, FLOORS, FLOORS));
            argument(all, "zone to above", x -> x.zone(car, 2, FLOORS));
            argument(all, "zone to below", x -> x.zone(car, 2, -1));
            argument(all, "zone the wrong way", x -> x.zone(car, 3, 2));
        }
    }

    private static void refusedCalls(List<Refused> all, State state) {
        argument(all, "call from below", x -> x.call(-1, 3));
        argument(all, "call from above", x -> x.call(FLOORS, 3));
        argument(all, "call to below", x -> x.call(3, -1));
        argument(all, "call to above", x -> x.call(3, FLOORS));
        argument(all, "call to its own floor", x -> x.call(3, 3));
        argument(all, "pass 0", x -> x.pass(0));
        argument(all, "pass 1001", x -> x.pass(1001));
        argument(all, "pass below", x -> x.pass(-1));
        if (state.late) {
            argument(all, "pass above 100000", x -> x.pass(1000));
        }
        if (state.full) {
            all.add(new Refused("seventh open call", false, x -> x.call(3, 4)));
        }
        for (int call : new int[] {-1, state.calls, state.done > 0 ? 0 : 400}) {
            argument(all, "urgent " + call, x -> x.urgent(call, true));
            argument(all, "urgent no more " + call, x -> x.urgent(call, false));
            argument(all, "begin by NONE " + call, x -> x.begin(call, CallSums.NONE));
            argument(all, "begin " + call, x -> x.begin(call, 0));
            argument(all, "done " + call, x -> x.done(call));
        }
        for (int call = state.done; call < state.calls; call++) {
            int open = call;
            argument(all, "begin by a car too many " + call, x -> x.begin(open, state.cars));
            argument(all, "begin by a car below " + call, x -> x.begin(open, -2));
        }
    }

    private static void refusedQuestions(List<Refused> all, State state) {
        for (int call : new int[] {-1, state.calls}) {
            argument(all, "carOf " + call, x -> x.carOf(call));
            argument(all, "told " + call, x -> x.told(call, 0));
            argument(all, "cars " + call, x -> x.cars(call));
            argument(all, "weight " + call, x -> x.weight(call));
        }
        if (state.done > 0) {
            argument(all, "cars of a done one", x -> x.cars(0));
            argument(all, "weight of a done one", x -> x.weight(0));
            argument(all, "told too little", x -> x.told(0, -1));
            argument(all, "told too much", x -> x.told(0, 3));
        }
        argument(all, "turn of none", x -> x.turn(state.cars, 0));
        if (state.cars > 0) {
            argument(all, "turn below", x -> x.turn(0, -1));
        }
    }

    private static void begunByAnother() {
        for (int by = 0; by < 4; by++) {
            CallSums x = new CallSums(FLOORS);
            CallSums twin = new CallSums(FLOORS);
            full(x);
            full(twin);
            int car = by;
            // car 3 has begun call 2; call 5 goes from floor 0, out of the zone of car 1
            CHECKS.due("call 5", x.begin(5, car), car == 0 || car == 2);
            if (car == 0 || car == 2) {
                twin.begin(5, car);
            }
            for (int call = 1; call < 7; call++) {
                int other = call;
                CHECKS.due("car 3, call " + call, x.begin(other, 3), other == 2);
            }
            alike("by " + by, x, twin, 4, 7);
        }
    }

    /** Whether two objects answer alike, now and after the next givings. */
    private static void alike(String name, CallSums x, CallSums twin, int cars, int calls) {
        same(name + ", at once", x, twin, cars, calls);
        CHECKS.due(name + ", sum", x.give(), twin.give());
        same(name + ", given anew", x, twin, cars, calls);
        CHECKS.due(name + ", TIME", x.pass(1), twin.pass(1));
        for (int call = calls - 1; call > 0; call -= 3) {
            CHECKS.due(name + ", urgent " + call, x.urgent(call, false), twin.urgent(call, false));
            x.done(call);
            twin.done(call);
        }
        for (int i = x.open(); i < 6; i++) {
            CHECKS.due(name + ", the next call", x.call(0, 1 + i), twin.call(0, 1 + i));
        }
        for (int car = 0; car < cars; car++) {
            CHECKS.due(name + ", sleep " + car, x.sleep(car, false), twin.sleep(car, false));
        }
        for (int i = cars; i < 4; i++) {
            CHECKS.due(name + ", the next car", x.car(i, 1), twin.car(i, 1));
        }
        CHECKS.due(name + ", last sum", x.give(), twin.give());
        same(name + ", at last", x, twin, 4, calls);
    }

    private static void same(String name, CallSums x, CallSums twin, int cars, int calls) {
        CHECKS.due(name + ", open", x.open(), twin.open());
        CHECKS.due(name + ", left", x.left(), twin.left());
        for (int call = 0; call < calls; call++) {
            CHECKS.due(name + ", carOf " + call, x.carOf(call), twin.carOf(call));
            for (int what = 0; what < 3; what++) {
                CHECKS.due(name + ", told " + call, x.told(call, what), twin.told(call, what));
            }
            if (isOpen(twin, call)) {
                CHECKS.due(name + ", cars " + call, x.cars(call), twin.cars(call));
                CHECKS.due(name + ", weight " + call, x.weight(call), twin.weight(call));
            }
        }
        for (int car = 0; car < cars; car++) {
            for (int k = 0; k < 4; k++) {
                CHECKS.due(name + ", turn " + car, x.turn(car, k), twin.turn(car, k));
            }
        }
    }

    private static boolean isOpen(CallSums x, int call) {
        try {
            x.weight(call);
            return true;
        } catch (IllegalArgumentException e) {
            return false;
        }
    }
}
