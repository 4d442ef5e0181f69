/** A group of lifts: calls are given to cars so that all waiting and riding together is least. */
public final class CallSums {
    /** There is none. */
    public static final int NONE = -1;

    private static final int FEWEST_FLOORS = 2;
    private static final int MOST_FLOORS = 60;
    private static final int MOST_CARS = 4;
    private static final int FASTEST = 1;
    private static final int SLOWEST = 5;
    private static final int MOST_OPEN = 6;
    private static final int MOST_CALLS = 400;
    private static final int LAST_SECOND = 100000;
    private static final int LONGEST_PASS = 1000;
    private static final int STOP = 3;
    private static final int SECONDS_A_WEIGHT = 30;
    private static final int URGENT_TIMES = 4;
    private static final long ABOVE_ALL_SUMS = 1L << 60;

    private static final int TELL_PICK = 0;
    private static final int TELL_SET = 1;
    private static final int TELL_WEIGHT = 2;

    private final int floors;
    private final Lift[] lifts = new Lift[MOST_CARS];
    private int liftCount;
    /** The open calls, by their numbers; behind the last one all places are null. */
    private final Ride[] openRides = new Ride[MOST_OPEN];
    private int openCount;
    private int callCount;
    private int time;
    private final Giving giving = new Giving();

    public CallSums(int floors) {
        this.floors = Math.max(FEWEST_FLOORS, Math.min(MOST_FLOORS, floors));
    }

    public int car(int floor, int speed) throws IllegalArgumentException, IllegalStateException {
        if (!isFloor(floor) || speed < FASTEST || speed > SLOWEST) {
            throw new IllegalArgumentException("no such floor, or no such speed");
        }
        if (liftCount >= lifts.length) {
            throw new IllegalStateException("there are 4 cars");
        }
        lifts[liftCount] = new Lift(speed, floor, floors - 1);
        liftCount++;
        return liftCount - 1;
    }

    public void free(int car, int floor, int second) throws IllegalArgumentException {
        Lift lift = liftOf(car);
        if (lift == null || !isFloor(floor) || second < 0 || second > LAST_SECOND) {
            throw new IllegalArgumentException("no such car, floor or second");
        }
        lift.floor = floor;
        lift.second = second;
    }

    public void zone(int car, int least, int greatest) throws IllegalArgumentException {
        Lift lift = liftOf(car);
        if (lift == null || !isFloor(least) || !isFloor(greatest) || least > greatest) {
            throw new IllegalArgumentException("no such car, or no such zone");
        }
        lift.least = least;
        lift.greatest = greatest;
    }

    public boolean sleep(int car, boolean on) throws IllegalArgumentException {
        Lift lift = liftOf(car);
        if (lift == null) {
            throw new IllegalArgumentException("no such car");
        }
        boolean was = lift.asleep;
        lift.asleep = on;
        return was;
    }

    public int call(int from, int to) throws IllegalArgumentException, IllegalStateException {
        if (!isFloor(from) || !isFloor(to) || from == to) {
            throw new IllegalArgumentException("no such floor, or both are one");
        }
        if (openCount >= openRides.length || callCount >= MOST_CALLS) {
            throw new IllegalStateException("there are 6 open calls, or 400 calls");
        }
        openRides[openCount] = new Ride(callCount, from, to, time);
        openCount++;
        callCount++;
        return callCount - 1;
    }

    public boolean urgent(int call, boolean on) throws IllegalArgumentException {
        Ride ride = openRide(call);
        if (ride == null) {
            throw new IllegalArgumentException("the call is not open");
        }
        boolean was = ride.urgent;
        ride.urgent = on;
        return was;
    }

    public boolean begin(int call, int car) throws IllegalArgumentException {
        Ride ride = openRide(call);
        Lift lift = liftOf(car);
        if (ride == null || (lift == null && car != NONE)) {
            throw new IllegalArgumentException("the call is not open, or no such car");
        }
        if (lift != null && (!lift.reaches(ride) || hasBegunAnother(car, ride))) {
            return false;
        }
        ride.begunBy = car;
        return true;
    }

    public void done(int call) throws IllegalArgumentException {
        if (openRide(call) == null) {
            throw new IllegalArgumentException("the call is not open");
        }
        dropRide(call);
    }

    public int pass(int n) throws IllegalArgumentException {
        if (n < 1 || n > LONGEST_PASS || time + n > LAST_SECOND) {
            throw new IllegalArgumentException("so many seconds can not pass");
        }
        time += n;
        return time;
    }

    public long give() {
        giving.clear();
        for (Ride ride : openRides) {
            if (ride != null) {
                int able = ableCars(ride);
                if (able != 0) {
                    giving.add(ride, weightNow(ride), able);
                }
            }
        }
        return giving.make(lifts, time);
    }

    public int carOf(int call) throws IllegalArgumentException {
        if (!wasCalled(call)) {
            throw new IllegalArgumentException("there never was such a call");
        }
        int slot = giving.slotOf(call);
        return slot == NONE ? NONE : giving.car[slot];
    }

    public int turn(int car, int k) throws IllegalArgumentException {
        if (liftOf(car) == null || k < 0) {
            throw new IllegalArgumentException("no such car, or k is below 0");
        }
        return giving.inRow(car, k);
    }

    public int told(int call, int what) throws IllegalArgumentException {
        if (!wasCalled(call) || what < TELL_PICK || what > TELL_WEIGHT) {
            throw new IllegalArgumentException("there never was such a call, or nothing such is told");
        }
        int slot = giving.slotOf(call);
        if (slot == NONE) {
            return NONE;
        }
        if (what == TELL_PICK) {
            return giving.pick[slot];
        }
        return what == TELL_SET ? giving.set[slot] : giving.weight[slot];
    }

    public int left() {
        int count = 0;
        for (Ride ride : openRides) {
            if (ride != null && ableCars(ride) == 0) {
                count++;
            }
        }
        return count;
    }

    public int cars(int call) throws IllegalArgumentException {
        Ride ride = openRide(call);
        if (ride == null) {
            throw new IllegalArgumentException("the call is not open");
        }
        return ableCars(ride);
    }

    public int open() {
        return openCount;
    }

    public int weight(int call) throws IllegalArgumentException {
        Ride ride = openRide(call);
        if (ride == null) {
            throw new IllegalArgumentException("the call is not open");
        }
        return weightNow(ride);
    }

    private boolean isFloor(int floor) {
        return floor >= 0 && floor < floors;
    }

    private boolean wasCalled(int call) {
        return call >= 0 && call < callCount;
    }

    /** Null if there is no such car. */
    private Lift liftOf(int car) {
        return car >= 0 && car < lifts.length ? lifts[car] : null;
    }

    /** Null if the call is not open. */
    private Ride openRide(int call) {
        for (Ride ride : openRides) {
            if (ride != null && ride.number == call) {
                return ride;
            }
        }
        return null;
    }

    private void dropRide(int call) {
        int kept = 0;
        for (int i = 0; i < openRides.length; i++) {
            Ride ride = openRides[i];
            openRides[i] = null;
            if (ride != null && ride.number != call) {
                openRides[kept] = ride;
                kept++;
            }
        }
        openCount = kept;
    }

    private boolean hasBegunAnother(int car, Ride than) {
        for (Ride ride : openRides) {
            if (ride != null && ride != than && ride.begunBy == car) {
                return true;
            }
        }
        return false;
    }

    /** The cars that a call has, as a set of bits. */
    private int ableCars(Ride ride) {
        int awake = 0;
        int asleep = 0;
        for (int car = 0; car < lifts.length; car++) {
            Lift lift = lifts[car];
            if (lift != null && lift.reaches(ride) && (ride.begunBy == NONE || ride.begunBy == car)) {
                if (lift.asleep) {
                    asleep |= 1 << car;
                } else {
                    awake |= 1 << car;
                }
            }
        }
        return awake != 0 ? awake : asleep;
    }

    private int weightNow(Ride ride) {
        int weight = 1 + (time - ride.since) / SECONDS_A_WEIGHT;
        return ride.urgent ? URGENT_TIMES * weight : weight;
    }

    /** A call. */
    private static final class Ride {
        final int number;
        final int from;
        final int to;
        final int since;
        boolean urgent;
        /** The car that has begun it. */
        int begunBy = NONE;

        Ride(int number, int from, int to, int since) {
            this.number = number;
            this.from = from;
            this.to = to;
            this.since = since;
        }
    }

    /** A car. */
    private static final class Lift {
        final int speed;
        int floor;
        /** Second 0 is never behind TIME, so a new car is free at once. */
        int second;
        int least;
        int greatest;
        boolean asleep;
        final Rows rows = new Rows();

        Lift(int speed, int floor, int topFloor) {
            this.speed = speed;
            this.floor = floor;
            this.greatest = topFloor;
        }

        boolean reaches(Ride ride) {
            return within(ride.from) && within(ride.to);
        }

        private boolean within(int asked) {
            return asked >= least && asked <= greatest;
        }
    }

    /**
     * The best row of one car for each set of calls of a giving; sets are bits of the calls' slots.
     *
     * <p>A row that starts a second later costs its BURDEN more (the weights of its calls, and one for
     * each of them), in whatever order they stand. So the best order of what is still to be served does
     * not depend on when it starts, only on the floor from which, and each best row is one call and a
     * best row of the others behind it.
     */
    private static final class Rows {
        static final int SETS = 1 << MOST_OPEN;
        /** Stands for the place where the car is free, among the slots at whose goals it may be. */
        static final int START = MOST_OPEN;
        static final int PLACES = MOST_OPEN + 1;

        private int speed;
        private int floor;
        /** Seconds behind TIME from which the car is free. */
        private int delay;
        /** The slot of the call that the car has begun. */
        private int begun;
        /** For a set and a place from which it is served: the least cost, counted from leaving there. */
        private final long[] cost = new long[SETS * PLACES];
        /** For the same: the slot that is served first. */
        private final int[] first = new int[SETS * PLACES];

        /** For what is no set or no place: cell 0, the empty set's, which stays 0. */
        private static int cell(int set, int place) {
            return set >= 0 && set < SETS && place >= 0 && place < PLACES ? set * PLACES + place : 0;
        }

        long costOf(int set) {
            return cost[cell(set, START)];
        }

        int firstOf(int set, int place) {
            return first[cell(set, place)];
        }

        /** Weighs the rows of all the sets that can fall to the car. */
        void weigh(Giving giving, Lift lift, int car, int delay) {
            this.speed = lift.speed;
            this.floor = lift.floor;
            this.delay = delay;
            this.begun = giving.begunSlot(car);
            int able = giving.slotsFor(car);
            for (int set = 1; set < SETS; set++) {
                if ((set & ~able) == 0) {
                    for (int place = 0; place < MOST_OPEN; place++) {
                        if ((able >> place & 1) != 0 && (set >> place & 1) == 0) {
                            choose(giving, set, place, set);
                        }
                    }
                    choose(giving, set, START, firsts(set));
                }
            }
        }

        /** What the row of a set may begin with. */
        private int firsts(int set) {
            return begun != NONE && (set >> begun & 1) != 0 ? 1 << begun : set;
        }

        /** Of several firsts that cost the same the least call stays, as the tie wants it. */
        private void choose(Giving giving, int set, int place, int firsts) {
            int cell = cell(set, place);
            cost[cell] = ABOVE_ALL_SUMS;
            for (int slot = 0; slot < MOST_OPEN; slot++) {
                if ((firsts >> slot & 1) != 0) {
                    int pick = secondsTo(giving, place, slot);
                    int end = pick + secondsWith(giving, slot);
                    int rest = set & ~(1 << slot);
                    long sum = (long) giving.weight[slot] * pick + end
                            + (long) (end + STOP) * giving.burden[rest] + cost[cell(rest, slot)];
                    if (sum < cost[cell]) {
                        cost[cell] = sum;
                        first[cell] = slot;
                    }
                }
            }
        }

        /** From leaving a place until it comes to a call's floor. */
        int secondsTo(Giving giving, int place, int slot) {
            if (place >= 0 && place < MOST_OPEN) {
                return speed * Math.abs(giving.to[place] - giving.from[slot]);
            }
            return delay + speed * Math.abs(floor - giving.from[slot]);
        }

        /** From coming to a call's floor until it comes to its goal. */
        int secondsWith(Giving giving, int slot) {
            return STOP + speed * Math.abs(giving.from[slot] - giving.to[slot]);
        }
    }

    /** The giving that was made. Its calls stand in slots, by their numbers. */
    private static final class Giving {
        final int[] from = new int[MOST_OPEN];
        final int[] to = new int[MOST_OPEN];
        final int[] weight = new int[MOST_OPEN];
        final int[] car = new int[MOST_OPEN];
        final int[] pick = new int[MOST_OPEN];
        final int[] set = new int[MOST_OPEN];
        /** For each set of slots: what a second more costs its calls. */
        final int[] burden = new int[Rows.SETS];

        private int count;
        private final int[] number = new int[MOST_OPEN];
        private final int[] able = new int[MOST_OPEN];
        private final int[] begunBy = new int[MOST_OPEN];
        /** For each car, one row behind the other: its calls, then NONE. */
        private final int[] row = new int[MOST_CARS * MOST_OPEN];

        /** The cars that are being tried, and for each car the set of slots that it has by that. */
        private final int[] tried = new int[MOST_OPEN];
        private final int[] load = new int[MOST_CARS];
        private long leastSum;

        Giving() {
            clearRows();
        }

        private void clearRows() {
            for (int i = 0; i < row.length; i++) {
                row[i] = NONE;
            }
        }

        void clear() {
            count = 0;
            clearRows();
        }

        void add(Ride ride, int weightNow, int ableCars) {
            if (count < MOST_OPEN) {
                number[count] = ride.number;
                from[count] = ride.from;
                to[count] = ride.to;
                weight[count] = weightNow;
                able[count] = ableCars;
                begunBy[count] = ride.begunBy;
                count++;
            }
        }

        /** NONE if the call was not given. */
        int slotOf(int asked) {
            for (int slot = 0; slot < count; slot++) {
                if (number[slot] == asked) {
                    return slot;
                }
            }
            return NONE;
        }

        int inRow(int ofCar, int k) {
            return ofCar >= 0 && ofCar < MOST_CARS && k >= 0 && k < MOST_OPEN ? row[ofCar * MOST_OPEN + k] : NONE;
        }

        int begunSlot(int ofCar) {
            for (int slot = 0; slot < count; slot++) {
                if (begunBy[slot] == ofCar) {
                    return slot;
                }
            }
            return NONE;
        }

        /** The calls that a car may be given, as a set of slots. */
        int slotsFor(int ofCar) {
            int slots = 0;
            for (int slot = 0; slot < count; slot++) {
                if ((able[slot] >> ofCar & 1) != 0) {
                    slots |= 1 << slot;
                }
            }
            return slots;
        }

        /** Makes the giving of what was added: its sum. */
        long make(Lift[] lifts, int time) {
            weighSets();
            for (int c = 0; c < MOST_CARS && c < lifts.length; c++) {
                Lift lift = lifts[c];
                load[c] = 0;
                if (lift != null) {
                    lift.rows.weigh(this, lift, c, Math.max(0, lift.second - time));
                }
            }
            leastSum = ABOVE_ALL_SUMS;
            place(this, lifts, 0, 0L);
            for (int c = 0; c < MOST_CARS && c < lifts.length; c++) {
                Lift lift = lifts[c];
                if (lift != null) {
                    tell(lift.rows, c);
                }
            }
            return leastSum;
        }

        private void weighSets() {
            for (int slots = 1; slots < burden.length; slots++) {
                burden[slots] = 0;
                for (int slot = 0; slot < count; slot++) {
                    if ((slots >> slot & 1) != 0) {
                        burden[slots] += weight[slot] + 1;
                    }
                }
            }
        }

        /**
         * Tries all cars for the calls from a slot on, the least car first, so that of the givings with
         * the least sum the first one found is the one that is due. A call more never makes a car's best
         * row cheaper, so what costs as much as the best giving already needs no further look.
         */
        private static void place(Giving giving, Lift[] lifts, int slot, long sum) {
            if (slot >= giving.count || slot >= MOST_OPEN) {
                giving.keep(sum);
                return;
            }
            for (int c = 0; c < MOST_CARS && c < lifts.length; c++) {
                Lift lift = lifts[c];
                if (lift != null && (giving.able[slot] >> c & 1) != 0) {
                    int before = giving.load[c];
                    int with = before | (1 << slot);
                    long more = sum - lift.rows.costOf(before) + lift.rows.costOf(with);
                    if (more < giving.leastSum) {
                        giving.load[c] = with;
                        giving.tried[slot] = c;
                        place(giving, lifts, slot + 1, more);
                        giving.load[c] = before;
                    }
                }
            }
        }

        private void keep(long sum) {
            leastSum = sum;
            System.arraycopy(tried, 0, car, 0, MOST_OPEN);
        }

        /** Keeps what a car's row says of its calls. */
        private void tell(Rows rows, int ofCar) {
            int rest = 0;
            for (int slot = 0; slot < count; slot++) {
                if (car[slot] == ofCar) {
                    rest |= 1 << slot;
                }
            }
            int place = Rows.START;
            int left = 0;
            for (int k = 0; k < MOST_OPEN && rest != 0; k++) {
                int slot = rows.firstOf(rest, place);
                if (slot < 0 || slot >= MOST_OPEN) {
                    return;
                }
                pick[slot] = left + rows.secondsTo(this, place, slot);
                set[slot] = pick[slot] + rows.secondsWith(this, slot);
                row[ofCar * MOST_OPEN + k] = number[slot];
                left = set[slot] + STOP;
                place = slot;
                rest &= ~(1 << slot);
            }
        }
    }
}
