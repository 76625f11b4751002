import java.util.NoSuchElementException;

/** A park of rides, tick by tick, with its trains, staff, guests and books. */
public final class Coasterland {
    private static final int NONE = -1;
    private static final int MOST_RIDES = 4;
    private static final int FEWEST_BLOCKS = 4;
    private static final int MOST_BLOCKS = 12;
    private static final int MOST_TRAINS = 4;
    private static final int MOST_SEATS = 8;
    private static final int MOST_STAFF = 8;
    private static final int MOST_GUESTS = 60;
    private static final int MOST_WIND = 40;
    private static final int MOST_TICKS = 60;

    private static final int STATION_BLOCK = 0;
    private static final char STATION = 's';
    private static final char BRAKE = 'b';
    private static final char LIFT = 'l';
    private static final char PLAIN = 't';

    private static final int STOP_ENERGY = 3;
    private static final int LIFT_ENERGY = 5;
    private static final int STRONG_WIND = 15;
    private static final int GREATEST_FORCE = 6;
    private static final int STRONG_FORCE = 4;
    private static final int STRONG_FORCES_IN_A_ROW = 3;

    private static final char STANDS = 's';
    private static final char RUNS = 'm';
    private static final char STALLED = 'x';

    private static final char TRUTH = 't';
    private static final char ALWAYS = 'a';
    private static final char NEVER = 'n';

    private static final int TRAINS_AN_INSPECTION = 50;
    private static final int NEAR_STRIKE = 10;
    private static final int STRIKE_TICKS = 15;

    private static final char NOTHING = '.';

    private static final char ON_PATHS = 'p';
    private static final char IN_QUEUE = 'q';
    private static final char IN_TRAIN = 't';
    private static final char OUT = 'o';

    private static final char LONG_LINE = 'l';
    private static final char SINGLES = 's';
    private static final char RETURNS = 'r';

    private static final int MOST_FEELING = 99;
    private static final int TOO_SICK = 50;
    private static final int RETURN_WAIT = 5;
    private static final int MEAL_PRICE = 5;
    private static final int MEAL_FILLS = 5;
    private static final int MEAL_NAUSEA = 3;
    private static final int RECOVERY_TICKS = 10;

    private final Ride[] rideList = new Ride[MOST_RIDES];
    private int rideCount;
    private final int[] certificateList = new int[MOST_STAFF];
    private int staffCount;
    private final Guest[] guestList = new Guest[MOST_GUESTS];
    private int guestCount;
    private int windNow;
    private int tickNow;
    private boolean struck;
    private int strikeTick;
    private long brought;
    private long takenIn;
    private long takenOut;

    public Coasterland() {
    }

    public int addRide(int height, int wind, int price) throws IllegalArgumentException, IllegalStateException {
        if (!isWithin(height, 0, 250) || !isWithin(wind, 0, MOST_WIND) || !isWithin(price, 0, 99)) {
            throw new IllegalArgumentException("no such height, wind or price");
        }
        if (rideCount < 0 || rideCount >= rideList.length) {
            throw new IllegalStateException("no more rides");
        }
        rideList[rideCount] = new Ride(height, wind, price);
        rideCount++;
        return rideCount - 1;
    }

    public int addBlock(int ride, char kind, int length, int rise, int bend) throws IndexOutOfBoundsException,
            IllegalArgumentException, UnsupportedOperationException, IllegalStateException {
        Ring ring = rideAt(ride).ring;
        if (!isBlock(kind, length, rise, bend)) {
            throw new IllegalArgumentException("no such block");
        }
        if (ring.closed) {
            throw new UnsupportedOperationException("the ring is closed");
        }
        if (ring.blockCount >= MOST_BLOCKS) {
            throw new IllegalStateException("no more blocks");
        }
        return ring.append(new Block(kind, length, rise, bend));
    }

    public int close(int ride) throws IndexOutOfBoundsException, UnsupportedOperationException {
        Ring ring = rideAt(ride).ring;
        if (ring.closed || !ring.canBeClosed()) {
            throw new UnsupportedOperationException("the ring cannot be closed");
        }
        ring.closed = true;
        return ring.countStops();
    }

    public int addTrain(int ride, int seats) throws IndexOutOfBoundsException, IllegalArgumentException,
            UnsupportedOperationException, IllegalStateException {
        Ride at = rideAt(ride);
        if (!isWithin(seats, 1, MOST_SEATS)) {
            throw new IllegalArgumentException("no such number of seats");
        }
        if (!at.ring.closed || at.isBlockHeld(STATION_BLOCK)) {
            throw new UnsupportedOperationException("the station cannot take a train");
        }
        if (at.trainCount >= MOST_TRAINS) {
            throw new IllegalStateException("no more trains");
        }
        int number = at.putTrain(new Train(seats));
        at.compareProcessors();
        return number;
    }

    public int addStaff(int certificates) throws IllegalArgumentException, IllegalStateException {
        if (!isWithin(certificates, 0, 15)) {
            throw new IllegalArgumentException("no such certificates");
        }
        if (staffCount < 0 || staffCount >= certificateList.length) {
            throw new IllegalStateException("no more staff");
        }
        certificateList[staffCount] = certificates;
        staffCount++;
        return staffCount - 1;
    }

    public int assign(int ride, int member) throws IndexOutOfBoundsException, UnsupportedOperationException {
        Ride at = rideAt(ride);
        checkMember(member);
        if (!isCertified(member, ride) || operatesAnother(member, at)) {
            throw new UnsupportedOperationException("the member cannot operate this ride");
        }
        int before = at.operator;
        at.operator = member;
        return before;
    }

    public int inspect(int ride, int member) throws IndexOutOfBoundsException, UnsupportedOperationException {
        Ride at = rideAt(ride);
        checkMember(member);
        if (!isCertified(member, ride)) {
            throw new UnsupportedOperationException("the member is not certified");
        }
        int before = at.leftSinceInspection;
        at.inspected = true;
        at.leftSinceInspection = 0;
        return before;
    }

    public int lock(int ride, int member) throws IndexOutOfBoundsException, UnsupportedOperationException {
        Ride at = rideAt(ride);
        checkMember(member);
        if (at.isLockedBy(member)) {
            throw new UnsupportedOperationException("this lock is on already");
        }
        at.locks = at.locks | 1 << member;
        return Integer.bitCount(at.locks);
    }

    public int unlock(int ride, int member) throws IndexOutOfBoundsException, UnsupportedOperationException {
        Ride at = rideAt(ride);
        checkMember(member);
        if (!at.isLockedBy(member)) {
            throw new UnsupportedOperationException("no such lock is on");
        }
        at.locks = at.locks & ~(1 << member);
        return Integer.bitCount(at.locks);
    }

    public char setSensor(int ride, int block, int processor, char how) throws IndexOutOfBoundsException,
            IllegalArgumentException {
        Ride at = rideAt(ride);
        Block told = blockAt(at, block);
        checkProcessor(processor);
        if (how != TRUTH && how != ALWAYS && how != NEVER) {
            throw new IllegalArgumentException("no such way");
        }
        char before = told.sensor(processor);
        told.tellSensor(processor, how);
        at.compareProcessors();
        return before;
    }

    public int reset(int ride) throws IndexOutOfBoundsException, UnsupportedOperationException {
        Ride at = rideAt(ride);
        if (!at.tripped || at.processorsDiffer() || at.hasStalledTrain()) {
            throw new UnsupportedOperationException("the ride cannot be reset");
        }
        at.tripped = false;
        return at.trainCount;
    }

    public int setWind(int wind) throws IllegalArgumentException {
        if (!isWithin(wind, 0, MOST_WIND)) {
            throw new IllegalArgumentException("no such wind");
        }
        int before = windNow;
        windNow = wind;
        return before;
    }

    public boolean strike(int distance) throws IllegalArgumentException {
        if (!isWithin(distance, 0, 99)) {
            throw new IllegalArgumentException("no such distance");
        }
        if (distance >= NEAR_STRIKE) {
            return false;
        }
        struck = true;
        strikeTick = tickNow;
        return true;
    }

    public int dispatch(int ride) throws IndexOutOfBoundsException, UnsupportedOperationException {
        Ride at = rideAt(ride);
        Train train = at.trainInStation();
        if (train == null || at.whatKeepsInStation(windNow, isLightningNear()) != NOTHING) {
            throw new UnsupportedOperationException("something keeps the train");
        }
        at.sendOff(train);
        return at.board(train);
    }

    public int push(int ride, int train) throws IndexOutOfBoundsException, UnsupportedOperationException {
        Ride at = rideAt(ride);
        Train pushed = trainAt(at, train);
        if (pushed.state != STALLED) {
            throw new UnsupportedOperationException("the train has not stalled");
        }
        pushed.standIn(at.ring.nextStop(pushed.block));
        at.compareProcessors();
        return pushed.block;
    }

    public int tick(int ticks) throws IllegalArgumentException {
        if (!isWithin(ticks, 1, MOST_TICKS)) {
            throw new IllegalArgumentException("no such number of ticks");
        }
        for (int i = 0; i < ticks; i++) {
            tickNow++;
            for (Ride ride : rideList) {
                if (ride != null) {
                    ride.moveTrains(windNow);
                    ride.compareProcessors();
                }
            }
            if (tickNow % RECOVERY_TICKS == 0) {
                letGuestsRecover();
            }
        }
        return tickNow;
    }

    public int enter(int money, int height, int group) throws IllegalArgumentException, IllegalStateException {
        if (!isWithin(money, 0, 999) || !isWithin(height, 50, 250) || !isWithin(group, 0, 9)) {
            throw new IllegalArgumentException("no such money, height or group");
        }
        if (guestCount < 0 || guestCount >= guestList.length) {
            throw new IllegalStateException("no more guests");
        }
        guestList[guestCount] = new Guest(money, height, group);
        brought += money;
        guestCount++;
        return guestCount - 1;
    }

    public int leave(int guest) throws IndexOutOfBoundsException, UnsupportedOperationException {
        Guest who = guestAt(guest);
        if (who.place != ON_PATHS) {
            throw new UnsupportedOperationException("the guest is not on the paths");
        }
        who.place = OUT;
        takenOut += who.money;
        return who.money;
    }

    public int queue(int guest, int ride, char queue) throws IndexOutOfBoundsException, IllegalArgumentException,
            UnsupportedOperationException {
        Guest who = guestAt(guest);
        Ride at = rideAt(ride);
        Line line = lineAt(at, queue);
        boolean withReturn = queue == RETURNS;
        if (!who.mayQueue(at) || withReturn && !who.canUseReturn(ride, tickNow)) {
            throw new UnsupportedOperationException("the guest cannot queue");
        }
        if (withReturn) {
            who.returnRide = NONE;
        }
        who.joinLine(line, at.price);
        takenIn += at.price;
        return line.size;
    }

    public int quit(int guest) throws IndexOutOfBoundsException, UnsupportedOperationException {
        Guest who = guestAt(guest);
        if (who.place != IN_QUEUE) {
            throw new UnsupportedOperationException("the guest is in no queue");
        }
        int back = who.leaveLine();
        takenIn -= back;
        return back;
    }

    public int takeReturn(int guest, int ride) throws IndexOutOfBoundsException, UnsupportedOperationException {
        Guest who = guestAt(guest);
        Ride at = rideAt(ride);
        if (who.place == OUT) {
            throw new UnsupportedOperationException("the guest is out");
        }
        who.returnRide = ride;
        who.returnTick = tickNow + RETURN_WAIT + at.longLine.size;
        return who.returnTick;
    }

    public int eat(int guest) throws IndexOutOfBoundsException, UnsupportedOperationException {
        Guest who = guestAt(guest);
        if (who.place != ON_PATHS || who.money < MEAL_PRICE) {
            throw new UnsupportedOperationException("the guest cannot eat");
        }
        who.haveMeal();
        takenIn += MEAL_PRICE;
        return who.hunger;
    }

    public char keeps(int ride) throws IndexOutOfBoundsException {
        return rideAt(ride).whatKeepsInStation(windNow, isLightningNear());
    }

    public int force(int ride, int block) throws IndexOutOfBoundsException, UnsupportedOperationException {
        Ring ring = rideAt(ride).ring;
        checkBlock(ring, block);
        if (!ring.closed) {
            throw new UnsupportedOperationException("the ring is not closed");
        }
        return ring.forceOfRun(block, windNow);
    }

    public boolean isHeld(int ride, int block) throws IndexOutOfBoundsException {
        Ride at = rideAt(ride);
        checkBlock(at.ring, block);
        return at.isBlockHeld(block);
    }

    public boolean sees(int ride, int block, int processor) throws IndexOutOfBoundsException {
        Ride at = rideAt(ride);
        checkBlock(at.ring, block);
        checkProcessor(processor);
        return at.isSeen(block, processor);
    }

    public boolean hasTripped(int ride) throws IndexOutOfBoundsException {
        return rideAt(ride).tripped;
    }

    public int blockOf(int ride, int train) throws IndexOutOfBoundsException {
        return trainAt(rideAt(ride), train).block;
    }

    public int energy(int ride, int train) throws IndexOutOfBoundsException {
        return trainAt(rideAt(ride), train).energyIn;
    }

    public char stateOf(int ride, int train) throws IndexOutOfBoundsException {
        return trainAt(rideAt(ride), train).state;
    }

    public int aboard(int ride, int train) throws IndexOutOfBoundsException {
        return trainAt(rideAt(ride), train).riderCount;
    }

    public int waiting(int ride, char queue) throws IndexOutOfBoundsException, IllegalArgumentException {
        return lineAt(rideAt(ride), queue).size;
    }

    public char whereIs(int guest) throws IndexOutOfBoundsException {
        return guestAt(guest).place;
    }

    public int get(int guest, char what) throws IndexOutOfBoundsException, IllegalArgumentException {
        Guest who = guestAt(guest);
        if (what == 'm') {
            return who.money;
        }
        if (what == 'h') {
            return who.hunger;
        }
        if (what == 'n') {
            return who.nausea;
        }
        if (what == 'r') {
            return who.ridesDone;
        }
        throw new IllegalArgumentException("no such number of a guest");
    }

    public int hungriest() throws NoSuchElementException {
        Guest best = null;
        int number = NONE;
        for (int i = 0; i < guestList.length; i++) {
            Guest guest = guestList[i];
            if (guest != null && guest.place == ON_PATHS && (best == null || guest.isHungrierThan(best))) {
                best = guest;
                number = i;
            }
        }
        if (number == NONE) {
            throw new NoSuchElementException("none is on the paths");
        }
        return number;
    }

    public int cycles(int ride) throws IndexOutOfBoundsException {
        return rideAt(ride).leftAtAll;
    }

    public int ticks() {
        return tickNow;
    }

    public int guests() {
        return guestCount;
    }

    public long till() {
        return takenIn;
    }

    public long allMoney() {
        return moneyOfGuestsInside() + takenIn;
    }

    public float standingShare() throws ArithmeticException {
        int all = 0;
        int standing = 0;
        for (Ride ride : rideList) {
            if (ride != null) {
                all += ride.trainCount;
                standing += ride.countTrains(STANDS);
            }
        }
        if (all == 0) {
            throw new ArithmeticException("there are no trains");
        }
        return (float) standing / (float) all;
    }

    public double meanRides() throws ArithmeticException {
        int done = 0;
        for (Guest guest : guestList) {
            if (guest != null) {
                done += guest.ridesDone;
            }
        }
        if (guestCount == 0) {
            throw new ArithmeticException("there are no guests");
        }
        return (double) done / (double) guestCount;
    }

    public boolean isSound() {
        for (Ride ride : rideList) {
            if (ride != null && !ride.areHoldsSound()) {
                return false;
            }
        }
        for (Guest guest : guestList) {
            if (guest != null && !isInOnePlace(guest)) {
                return false;
            }
        }
        return brought == moneyOfGuestsInside() + takenOut + takenIn;
    }

    private static boolean isWithin(int number, int least, int most) {
        return number >= least && number <= most;
    }

    private static boolean isBlock(char kind, int length, int rise, int bend) {
        if (!isWithin(length, 1, 20) || !isWithin(rise, -9, 9) || !isWithin(bend, 0, 9)) {
            return false;
        }
        if (kind == STATION || kind == BRAKE) {
            return rise == 0 && bend == 0;
        }
        return kind == LIFT || kind == PLAIN;
    }

    private Ride rideAt(int number) {
        Ride ride = number >= 0 && number < rideList.length ? rideList[number] : null;
        if (ride == null) {
            throw new IndexOutOfBoundsException("no such ride");
        }
        return ride;
    }

    private static Block blockAt(Ride ride, int number) {
        Block block = ride.ring.blockOrNull(number);
        if (block == null) {
            throw new IndexOutOfBoundsException("no such block");
        }
        return block;
    }

    private static void checkBlock(Ring ring, int number) {
        if (ring.blockOrNull(number) == null) {
            throw new IndexOutOfBoundsException("no such block");
        }
    }

    private static void checkProcessor(int processor) {
        if (processor != 0 && processor != 1) {
            throw new IndexOutOfBoundsException("no such processor");
        }
    }

    private static Train trainAt(Ride ride, int number) {
        Train train = ride.trainOrNull(number);
        if (train == null) {
            throw new IndexOutOfBoundsException("no such train");
        }
        return train;
    }

    private static Line lineAt(Ride ride, char queue) {
        Line line = ride.lineOrNull(queue);
        if (line == null) {
            throw new IllegalArgumentException("no such queue");
        }
        return line;
    }

    private Guest guestAt(int number) {
        Guest guest = number >= 0 && number < guestList.length ? guestList[number] : null;
        if (guest == null) {
            throw new IndexOutOfBoundsException("no such guest");
        }
        return guest;
    }

    private void checkMember(int member) {
        if (member < 0 || member >= staffCount) {
            throw new IndexOutOfBoundsException("no such member of staff");
        }
    }

    private boolean isCertified(int member, int ride) {
        return member >= 0 && member < certificateList.length && (certificateList[member] & 1 << ride) != 0;
    }

    private boolean operatesAnother(int member, Ride own) {
        for (Ride ride : rideList) {
            if (ride != null && ride != own && ride.operator == member) {
                return true;
            }
        }
        return false;
    }

    private boolean isLightningNear() {
        return struck && tickNow - strikeTick <= STRIKE_TICKS;
    }

    private void letGuestsRecover() {
        for (Guest guest : guestList) {
            if (guest != null && guest.place == ON_PATHS && guest.nausea > 0) {
                guest.nausea--;
            }
        }
    }

    private long moneyOfGuestsInside() {
        long sum = 0;
        for (Guest guest : guestList) {
            if (guest != null && guest.place != OUT) {
                sum += guest.money;
            }
        }
        return sum;
    }

    private boolean isInOnePlace(Guest guest) {
        int inLines = 0;
        int inTrains = 0;
        for (Ride ride : rideList) {
            if (ride != null) {
                inLines += ride.countInLines(guest);
                inTrains += ride.countInTrains(guest);
            }
        }
        return inLines == (guest.place == IN_QUEUE ? 1 : 0) && inTrains == (guest.place == IN_TRAIN ? 1 : 0);
    }

    /** A block of a ring, and what its sensors are told to see. */
    private static final class Block {
        final char kind;
        final int length;
        final int rise;
        final int bend;
        private char sensor0 = TRUTH;
        private char sensor1 = TRUTH;

        Block(char kind, int length, int rise, int bend) {
            this.kind = kind;
            this.length = length;
            this.rise = rise;
            this.bend = bend;
        }

        boolean isStop() {
            return kind == STATION || kind == BRAKE;
        }

        int energyBehind(int energyIn, int wind) {
            if (isStop()) {
                return STOP_ENERGY;
            }
            if (kind == LIFT) {
                return LIFT_ENERGY;
            }
            int friction = (length + 3) / 4;
            return energyIn - (wind > STRONG_WIND ? 2 * friction : friction) - 2 * rise;
        }

        int forceFor(int energyIn) {
            return isStop() || length < 1 ? 0 : bend * energyIn / length + 1;
        }

        char sensor(int processor) {
            return processor == 0 ? sensor0 : sensor1;
        }

        void tellSensor(int processor, char how) {
            if (processor == 0) {
                sensor0 = how;
            } else {
                sensor1 = how;
            }
        }

        boolean isSeenBy(int processor, boolean taken) {
            char how = sensor(processor);
            return how == ALWAYS || how == TRUTH && taken;
        }
    }

    /** The blocks of a ride in their order. */
    private static final class Ring {
        private final Block[] blocks = new Block[MOST_BLOCKS];
        int blockCount;
        boolean closed;

        Block blockOrNull(int number) {
            return number >= 0 && number < blocks.length ? blocks[number] : null;
        }

        int append(Block block) {
            if (blockCount < 0 || blockCount >= blocks.length) {
                return NONE;
            }
            blocks[blockCount] = block;
            blockCount++;
            return blockCount - 1;
        }

        boolean canBeClosed() {
            int stations = 0;
            int rises = 0;
            for (Block block : blocks) {
                if (block != null) {
                    stations += block.kind == STATION ? 1 : 0;
                    rises += block.rise;
                }
            }
            Block first = blockOrNull(STATION_BLOCK);
            return blockCount >= FEWEST_BLOCKS && first != null && first.kind == STATION && stations == 1
                    && rises == 0;
        }

        int countStops() {
            int stops = 0;
            for (Block block : blocks) {
                if (block != null && block.isStop()) {
                    stops++;
                }
            }
            return stops;
        }

        int next(int number) {
            return number + 1 < blockCount ? number + 1 : STATION_BLOCK;
        }

        boolean isStop(int number) {
            Block block = blockOrNull(number);
            return block != null && block.isStop();
        }

        int nextStop(int number) {
            int at = next(number);
            for (int i = 0; i < blockCount && !isStop(at); i++) {
                at = next(at);
            }
            return at;
        }

        /** One bit for each block that a train takes to leave this stop. */
        int pathBehind(int stop) {
            int path = 0;
            int at = stop;
            for (int i = 0; i < blockCount; i++) {
                at = next(at);
                path = path | 1 << at;
                if (isStop(at)) {
                    return path;
                }
            }
            return path;
        }

        boolean isRunBad(int stop, int wind) {
            int energyIn = STOP_ENERGY;
            int strongForces = 0;
            int at = next(stop);
            for (int i = 0; i < blockCount; i++) {
                Block block = blockOrNull(at);
                if (block == null || block.isStop()) {
                    return false;
                }
                int force = block.forceFor(energyIn);
                strongForces = force > STRONG_FORCE ? strongForces + 1 : 0;
                energyIn = block.energyBehind(energyIn, wind);
                if (force > GREATEST_FORCE || strongForces >= STRONG_FORCES_IN_A_ROW || energyIn < 0) {
                    return true;
                }
                at = next(at);
            }
            return false;
        }

        int forceOfRun(int number, int wind) {
            int energyIn = STOP_ENERGY;
            int force = 0;
            // A run's energy begins anew at each stop, so that going on from the station finds the stop ahead.
            for (int i = 0; i <= number && i < blockCount; i++) {
                Block block = blockOrNull(i);
                if (block == null) {
                    return 0;
                }
                boolean stalledAhead = energyIn < 0 && !block.isStop();
                force = stalledAhead ? 0 : block.forceFor(energyIn);
                energyIn = stalledAhead ? energyIn : block.energyBehind(energyIn, wind);
            }
            return force;
        }
    }

    /** A train, the blocks that it holds and the guests aboard. */
    private static final class Train {
        private final int seats;
        private final Guest[] riders;
        int riderCount;
        int block = STATION_BLOCK;
        int energyIn;
        char state = STANDS;
        int held = 1 << STATION_BLOCK;
        private boolean climbing;
        private int greatestForce;

        Train(int seats) {
            this.seats = seats;
            this.riders = new Guest[MOST_SEATS];
        }

        int freeSeats() {
            return seats - riderCount;
        }

        boolean isLargerParty(int guests) {
            return guests > seats;
        }

        void seat(Guest guest) {
            if (riderCount >= 0 && riderCount < riders.length) {
                riders[riderCount] = guest;
                riderCount++;
                guest.goAboard();
            }
        }

        boolean holds(int number) {
            return (held & 1 << number) != 0;
        }

        void leaveStop(int path) {
            state = RUNS;
            held = held | path;
            if (block == STATION_BLOCK) {
                greatestForce = 0;
            }
        }

        void moveOn(Ring ring, int wind) {
            if (climbing) {
                climbing = false;
                return;
            }
            Block left = ring.blockOrNull(block);
            Block reached = ring.blockOrNull(ring.next(block));
            if (left == null || reached == null) {
                return;
            }
            int energyBehind = left.energyBehind(energyIn, wind);
            if (energyBehind < 0) {
                state = STALLED;
            } else if (reached.isStop()) {
                standIn(ring.next(block));
            } else {
                block = ring.next(block);
                energyIn = energyBehind;
                climbing = reached.kind == LIFT;
                greatestForce = Math.max(greatestForce, reached.forceFor(energyIn));
            }
        }

        void standIn(int stop) {
            block = stop;
            energyIn = 0;
            state = STANDS;
            held = 1 << stop;
            if (stop == STATION_BLOCK) {
                letRidersOut();
            }
        }

        private void letRidersOut() {
            for (int i = 0; i < riders.length; i++) {
                Guest rider = riders[i];
                if (rider != null) {
                    rider.finishRide(greatestForce);
                }
                riders[i] = null;
            }
            riderCount = 0;
        }

        int countOf(Guest guest) {
            int count = 0;
            for (int i = 0; i < riderCount && i < riders.length; i++) {
                if (riders[i] == guest) {
                    count++;
                }
            }
            return count;
        }
    }

    /** One queue of a ride, from its beginning on. */
    private static final class Line {
        private final Guest[] places = new Guest[MOST_GUESTS];
        int size;

        void append(Guest guest) {
            if (size >= 0 && size < places.length) {
                places[size] = guest;
                size++;
            }
        }

        Guest first() {
            return places[0];
        }

        /** How many have to come aboard with this guest, who is among them. */
        int partyOf(Guest guest) {
            int party = 0;
            for (int i = 0; i < size && i < places.length; i++) {
                Guest other = places[i];
                if (other != null && other.comesWith(guest)) {
                    party++;
                }
            }
            return party;
        }

        /** Takes out the first guest who comes aboard with this one, or answers null if there is none. */
        Guest takeOneOf(Guest guest) {
            for (int i = 0; i < size && i < places.length; i++) {
                Guest other = places[i];
                if (other != null && other.comesWith(guest)) {
                    takeAt(i);
                    return other;
                }
            }
            return null;
        }

        void takeOut(Guest guest) {
            for (int i = 0; i < size && i < places.length; i++) {
                if (places[i] == guest) {
                    takeAt(i);
                    return;
                }
            }
        }

        private void takeAt(int place) {
            if (place < 0 || size < 1 || size > places.length) {
                return;
            }
            for (int i = place; i + 1 < size; i++) {
                places[i] = places[i + 1];
            }
            size--;
            places[size] = null;
        }

        int countOf(Guest guest) {
            int count = 0;
            for (int i = 0; i < size && i < places.length; i++) {
                if (places[i] == guest) {
                    count++;
                }
            }
            return count;
        }
    }

    /** A guest: purse, body, return and place. */
    private static final class Guest {
        int money;
        private final int height;
        private final int group;
        int hunger;
        int nausea;
        int ridesDone;
        char place = ON_PATHS;
        int returnRide = NONE;
        int returnTick;
        private Line line;
        private int paid;

        Guest(int money, int height, int group) {
            this.money = money;
            this.height = height;
            this.group = group;
        }

        boolean mayQueue(Ride ride) {
            return place == ON_PATHS && height >= ride.height && money >= ride.price && nausea < TOO_SICK;
        }

        boolean canUseReturn(int ride, int tick) {
            return returnRide == ride && returnTick <= tick;
        }

        boolean comesWith(Guest other) {
            return this == other || group != 0 && group == other.group;
        }

        void joinLine(Line joined, int price) {
            joined.append(this);
            line = joined;
            paid = price;
            money -= price;
            place = IN_QUEUE;
        }

        int leaveLine() {
            if (line != null) {
                line.takeOut(this);
            }
            line = null;
            money += paid;
            place = ON_PATHS;
            return paid;
        }

        void goAboard() {
            line = null;
            place = IN_TRAIN;
        }

        void haveMeal() {
            money -= MEAL_PRICE;
            hunger = Math.max(0, hunger - MEAL_FILLS);
            nausea = Math.min(MOST_FEELING, nausea + MEAL_NAUSEA);
        }

        void finishRide(int greatestForce) {
            place = ON_PATHS;
            nausea = Math.min(MOST_FEELING, nausea + greatestForce);
            hunger = Math.min(MOST_FEELING, hunger + 1);
            ridesDone++;
        }

        boolean isHungrierThan(Guest other) {
            return hunger > other.hunger || hunger == other.hunger && nausea < other.nausea;
        }
    }

    /** A ride: its ring, trains and queues, and what may keep its trains. */
    private static final class Ride {
        final int height;
        private final int windLimit;
        final int price;
        final Ring ring = new Ring();
        private final Train[] trains = new Train[MOST_TRAINS];
        int trainCount;
        final Line longLine = new Line();
        private final Line singles = new Line();
        private final Line returns = new Line();
        int operator = NONE;
        boolean inspected;
        int leftSinceInspection;
        int leftAtAll;
        int locks;
        boolean tripped;

        Ride(int height, int windLimit, int price) {
            this.height = height;
            this.windLimit = windLimit;
            this.price = price;
        }

        Train trainOrNull(int number) {
            return number >= 0 && number < trains.length ? trains[number] : null;
        }

        Line lineOrNull(char queue) {
            if (queue == LONG_LINE) {
                return longLine;
            }
            if (queue == SINGLES) {
                return singles;
            }
            return queue == RETURNS ? returns : null;
        }

        int putTrain(Train train) {
            if (trainCount < 0 || trainCount >= trains.length) {
                return NONE;
            }
            trains[trainCount] = train;
            trainCount++;
            return trainCount - 1;
        }

        boolean isLockedBy(int member) {
            return (locks & 1 << member) != 0;
        }

        Train trainIn(int block) {
            for (Train train : trains) {
                if (train != null && train.block == block) {
                    return train;
                }
            }
            return null;
        }

        Train trainInStation() {
            Train train = trainIn(STATION_BLOCK);
            return train != null && train.state == STANDS ? train : null;
        }

        int countTrains(char state) {
            int count = 0;
            for (Train train : trains) {
                if (train != null && train.state == state) {
                    count++;
                }
            }
            return count;
        }

        boolean hasStalledTrain() {
            return countTrains(STALLED) > 0;
        }

        boolean isBlockHeld(int block) {
            for (Train train : trains) {
                if (train != null && train.holds(block)) {
                    return true;
                }
            }
            return false;
        }

        /** One bit for each block in which a train is. */
        private int blocksWithTrains() {
            int found = 0;
            for (Train train : trains) {
                if (train != null) {
                    found = found | 1 << train.block;
                }
            }
            return found;
        }

        /** One bit for each block in which a processor sees something. */
        private int blocksSeenBy(int processor) {
            int taken = blocksWithTrains();
            int seen = 0;
            for (int i = 0; i < ring.blockCount; i++) {
                Block block = ring.blockOrNull(i);
                if (block != null && block.isSeenBy(processor, (taken & 1 << i) != 0)) {
                    seen = seen | 1 << i;
                }
            }
            return seen;
        }

        boolean isSeen(int block, int processor) {
            return (blocksSeenBy(processor) & 1 << block) != 0;
        }

        boolean processorsDiffer() {
            return blocksSeenBy(0) != blocksSeenBy(1);
        }

        void compareProcessors() {
            if (processorsDiffer()) {
                tripped = true;
            }
        }

        char whatKeepsInStation(int wind, boolean lightning) {
            Train train = trainInStation();
            if (!ring.closed || train == null) {
                return 'n';
            }
            if (operator == NONE) {
                return 'o';
            }
            if (!inspected || leftSinceInspection >= TRAINS_AN_INSPECTION) {
                return 'i';
            }
            if (wind > windLimit || lightning) {
                return 'w';
            }
            return whatKeepsInStop(train, wind);
        }

        private char whatKeepsInStop(Train train, int wind) {
            if (tripped) {
                return 'e';
            }
            if (locks != 0) {
                return 'l';
            }
            if (ring.isRunBad(train.block, wind)) {
                return 'f';
            }
            return isPathFree(train) ? NOTHING : 'r';
        }

        private boolean isPathFree(Train train) {
            int path = ring.pathBehind(train.block);
            for (Train other : trains) {
                if (other != null && other != train && (other.held & path) != 0) {
                    return false;
                }
            }
            int pathAhead = path & ~(1 << train.block);
            return ((blocksSeenBy(0) | blocksSeenBy(1)) & pathAhead) == 0;
        }

        void sendOff(Train train) {
            train.leaveStop(ring.pathBehind(train.block));
            leftAtAll++;
            leftSinceInspection++;
        }

        void moveTrains(int wind) {
            // A train that comes from the last block to the station is met again there, where it just stands.
            for (int i = ring.blockCount - 1; i >= 0; i--) {
                Train train = trainIn(i);
                if (train != null && train.state == RUNS) {
                    train.moveOn(ring, wind);
                } else if (train != null && i != STATION_BLOCK && train.state == STANDS
                        && whatKeepsInStop(train, wind) == NOTHING) {
                    train.leaveStop(ring.pathBehind(i));
                }
            }
        }

        int board(Train train) {
            int before = train.riderCount;
            boardOneByOne(returns, train);
            boardParties(train);
            boardOneByOne(singles, train);
            return train.riderCount - before;
        }

        private static void boardOneByOne(Line line, Train train) {
            for (int i = 0; i < MOST_SEATS && train.freeSeats() > 0; i++) {
                Guest first = line.first();
                if (first == null) {
                    return;
                }
                line.takeOut(first);
                train.seat(first);
            }
        }

        private void boardParties(Train train) {
            for (int i = 0; i < MOST_GUESTS; i++) {
                Guest first = longLine.first();
                if (first == null) {
                    return;
                }
                int party = longLine.partyOf(first);
                boolean fits = party <= train.freeSeats();
                if (fits || train.isLargerParty(party)) {
                    boardParty(first, train);
                }
                if (!fits) {
                    return;
                }
            }
        }

        private void boardParty(Guest first, Train train) {
            for (int i = 0; i < MOST_SEATS && train.freeSeats() > 0; i++) {
                Guest next = longLine.takeOneOf(first);
                if (next == null) {
                    return;
                }
                train.seat(next);
            }
        }

        /** Whether no two trains hold a block, and each its own one, so that no two are in one either. */
        boolean areHoldsSound() {
            int heldSoFar = 0;
            for (Train train : trains) {
                if (train != null) {
                    if (!train.holds(train.block) || (train.held & heldSoFar) != 0) {
                        return false;
                    }
                    heldSoFar = heldSoFar | train.held;
                }
            }
            return true;
        }

        int countInLines(Guest guest) {
            return longLine.countOf(guest) + singles.countOf(guest) + returns.countOf(guest);
        }

        int countInTrains(Guest guest) {
            int count = 0;
            for (Train train : trains) {
                if (train != null) {
                    count += train.countOf(guest);
                }
            }
            return count;
        }
    }
}
