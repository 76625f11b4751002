/** The edges that the terms name for rings, energy, forces, permits, processors and weather. */
public final class TrackEdgesTest {
    private static final Check CHECK = new Check();

    private TrackEdgesTest() {
    }

    public static void main(String[] args) {
        lengthsRoundedUp();
        rises();
        strongWind();
        afterLiftsAndStops();
        stallsBelowNothing();
        liftsTakeTwoTicks();
        forcesRoundedDown();
        forcesInTheWind();
        forceSix();
        threeStrongForces();
        energyOfABadRun();
        theLastBlockAndTheStation();
        pushedFromEachBlock();
        permits();
        firstReasonOfTwo();
        fiftyTrains();
        fifteenTicks();
        processors();
        trippedOnTheWay();
        CHECK.end();
    }

    /** Lets a train run from the station in a wind, and tells its energy in the block, or its state if it stalled. */
    private static String energyIn(String blocks, int block, int wind) {
        Coasterland park = Parks.working(0, blocks, 1);
        if (park.keeps(0) != '.') {
            return "kept by " + park.keeps(0);
        }
        park.dispatch(0);
        park.setWind(wind);
        for (int i = 0; i < 30 && park.blockOf(0, 0) != block; i++) {
            park.tick(1);
        }
        return park.blockOf(0, 0) == block ? "" + park.energy(0, 0) : "stalled in " + park.blockOf(0, 0);
    }

    /** "Less the length divided by 4, rounded up": the block 2 comes in with 3 + 2 * 3 = 9 less that of the first. */
    private static void lengthsRoundedUp() {
        for (int length = 1; length <= 20; length++) {
            int less = length <= 4 ? 1 : length <= 8 ? 2 : length <= 12 ? 3 : length <= 16 ? 4 : 5;
            String blocks = "s1 t" + length + ",-3,0 l1,3,0 b1";
            CHECK.is("energy: length " + length, "" + (9 - less), energyIn(blocks, 2, 0));
            CHECK.is("energy: length " + length + " in a wind of 15", "" + (9 - less), energyIn(blocks, 2, 15));
            String due = 9 < 2 * less ? "stalled in 1" : "" + (9 - 2 * less);
            CHECK.is("energy: length " + length + " in a wind of 16", due, energyIn(blocks, 2, 16));
        }
    }

    /** "Less twice the rise": the lift ahead of it leaves with 5. */
    private static void rises() {
        for (int rise = -9; rise <= 2; rise++) {
            String blocks = "s1 l1," + -rise + ",0 t1," + rise + ",0 l1 b1";
            CHECK.is("energy: rise " + rise, "" + (4 - 2 * rise), energyIn(blocks, 3, 0));
        }
        CHECK.is("energy: rise 3", "kept by f", energyIn("s1 l1,-3,0 t1,3,0 l1 b1", 3, 0));
        CHECK.is("energy: a lift that falls and one that rises", "5", energyIn("s1 l20,-9,0 l20,9,0 t1 b1", 3, 40));
    }

    private static void strongWind() {
        String blocks = "s1 l1 t4 t4 t4 t4 b1";
        CHECK.is("energy: no wind", "2", energyIn(blocks, 5, 0));
        CHECK.is("energy: a wind of 15", "2", energyIn(blocks, 5, 15));
        CHECK.is("energy: a wind of 16", "1", energyIn(blocks, 4, 16));
        CHECK.is("energy: a wind of 40", "1", energyIn(blocks, 4, 40));
        CHECK.is("energy: a wind of 16, one block on", "stalled in 4", energyIn(blocks, 5, 16));
    }

    /** "It leaves a stop with 3, and a lift with 5", whatever it had. */
    private static void afterLiftsAndStops() {
        CHECK.is("energy: behind the station", "3", energyIn("s1 t1 t1 b1", 1, 0));
        CHECK.is("energy: behind a brake", "3", energyIn("s1 t1,-9,0 b1 l1,9,0", 3, 0));
        CHECK.is("energy: behind a brake, next to the station", "3", energyIn("s1 b1 t1 t1", 2, 0));
        CHECK.is("energy: with more into a lift", "20", energyIn("s1 t1,-9,0 l1,9,0 t1", 2, 0));
        CHECK.is("energy: with more than 5 into a lift", "5", energyIn("s1 t1,-9,0 l1,9,0 t1", 3, 0));
        CHECK.is("energy: with less than 5 into a lift", "5", energyIn("s1 t12 l1 t1", 3, 0));
        CHECK.is("energy: in a stop", "0", energyIn("s1 t1,-9,0 b1 l1,9,0", 2, 0));
    }

    /** "If the energy would be less than 0 as it leaves a block, it stalls there." */
    private static void stallsBelowNothing() {
        CHECK.is("stalls: with 0 it goes on", "0", energyIn("s1 t12 t1,-1,0 l1,1,0", 2, 0));
        CHECK.is("stalls: into a stop with 0", "0", energyIn("s1 t12 b1 b1", 2, 0));
        Coasterland park = Parks.working(0, "s1 t8 b1 b1", 1);
        park.dispatch(0);
        park.setWind(16);
        park.tick(1);
        CHECK.is("stalls: not as it comes", 'm', park.stateOf(0, 0));
        park.tick(1);
        CHECK.is("stalls: with -1, ahead of a stop", 'x', park.stateOf(0, 0));
        CHECK.is("stalls: there", 1, park.blockOf(0, 0));
        CHECK.is("stalls: energy as it came", 3, park.energy(0, 0));
        park.tick(60);
        CHECK.is("stalls: it stays", 1, park.blockOf(0, 0));
        CHECK.is("stalls: nothing is given back", true, park.isHeld(0, 0));
        CHECK.is("stalls: not the stop either", true, park.isHeld(0, 2));
        CHECK.is("stalls: nothing more is held", false, park.isHeld(0, 3));
    }

    /** "In each tick, but from a lift only in the second one." */
    private static void liftsTakeTwoTicks() {
        Coasterland park = Parks.working(0, "s1 l1 l1 t1 l1", 1);
        park.dispatch(0);
        int[] blocks = {1, 1, 2, 2, 3, 4, 4, 0, 0};
        for (int i = 0; i < blocks.length; i++) {
            park.tick(1);
            CHECK.is("lifts: block behind the tick " + (i + 1), blocks[i], park.blockOf(0, 0));
        }
        CHECK.is("lifts: it stands", 's', park.stateOf(0, 0));
        park.dispatch(0);
        park.tick(7);
        CHECK.is("lifts: the second round too", 4, park.blockOf(0, 0));
        park.tick(1);
        CHECK.is("lifts: the same time", 0, park.blockOf(0, 0));
    }

    private static int forceBehindStation(int length, int bend) {
        Coasterland park = new Coasterland();
        Parks.closed(park, 0, 40, 0, "s1 l" + length + ",0," + bend + " b1 b1");
        return park.force(0, 1);
    }

    /** "The bend times the energy divided by the length, rounded down, and 1 more", with an energy of 3. */
    private static void forcesRoundedDown() {
        for (int length = 1; length <= 20; length++) {
            for (int bend = 0; bend <= 9; bend++) {
                int whole = 0;
                while ((whole + 1) * length <= bend * 3) {
                    whole++;
                }
                CHECK.is("force: length " + length + ", bend " + bend, whole + 1, forceBehindStation(length, bend));
            }
        }
    }

    /** "0 in a stop, or behind a place where a train would stall", in the wind that blows now. */
    private static void forcesInTheWind() {
        Coasterland park = new Coasterland();
        Parks.closed(park, 0, 40, 0, "s1 t4,0,4 t4,0,4 t4,0,4 t4,0,4 t4,0,4 b9 t4,0,4 t8,0,4 l4,0,4 t4,0,4");
        int[] calm = {0, 4, 3, 2, 1, 0, 0, 4, 2, 1, 6};
        int[] windy = {0, 4, 2, 0, 0, 0, 0, 4, 1, 0, 0};
        for (int block = 0; block < calm.length; block++) {
            park.setWind(0);
            CHECK.is("force: no wind, block " + block, calm[block], park.force(0, block));
            park.setWind(15);
            CHECK.is("force: a wind of 15, block " + block, calm[block], park.force(0, block));
            park.setWind(16);
            CHECK.is("force: a wind of 16, block " + block, windy[block], park.force(0, block));
        }
    }

    private static char keepsOn(String blocks) {
        return Parks.working(0, blocks, 1).keeps(0);
    }

    /** "A force in it is greater than 6." */
    private static void forceSix() {
        CHECK.is("force 6 in the first block", '.', keepsOn("s1 l3,0,5 b1 b1"));
        CHECK.is("force 7 in the first block", 'f', keepsOn("s1 l3,0,6 b1 b1"));
        CHECK.is("force 6 in plain track", '.', keepsOn("s1 t3,0,5 b1 b1"));
        CHECK.is("force 7 in plain track", 'f', keepsOn("s1 t3,0,6 b1 b1"));
        CHECK.is("force 6 in the last block", '.', keepsOn("s1 l1 l1 t1,0,1"));
        CHECK.is("force 7 in the last block", 'f', keepsOn("s1 l1 l1 t5,0,6"));
        CHECK.is("force 7 behind the next stop", '.', keepsOn("s1 l1 b1 t3,0,6"));
    }

    /** "Three forces one behind the other are greater than 4": a lift comes in with 5, and leaves with 5. */
    private static void threeStrongForces() {
        String four = " l5,0,3";
        String five = " l5,0,4";
        CHECK.is("forces 5 5 5", 'f', keepsOn("s1 l1" + five + five + five));
        CHECK.is("forces 5 5 4", '.', keepsOn("s1 l1" + five + five + four));
        CHECK.is("forces 4 5 5", '.', keepsOn("s1 l1" + four + five + five));
        CHECK.is("forces 5 4 5 5", '.', keepsOn("s1 l1" + five + four + five + five));
        CHECK.is("forces 5 5 4 5 5", '.', keepsOn("s1 l1" + five + five + four + five + five));
        CHECK.is("forces 5 5 4 5 5 5", 'f', keepsOn("s1 l1" + five + five + four + five + five + five));
        CHECK.is("forces 4 4 4 4", '.', keepsOn("s1 l1" + four + four + four + four));
        CHECK.is("forces 5 5 5 in the middle", 'f', keepsOn("s1 l1" + five + five + five + four + " b1"));
        CHECK.is("forces 5 5, a brake, 5", '.', keepsOn("s1 l1" + five + five + " b1 l3,0,4"));
    }

    /** "If the energy would be less than 0 as a block is left", which may be the last one ahead of the stop. */
    private static void energyOfABadRun() {
        CHECK.is("run: 0 as the last block is left", '.', keepsOn("s1 t4 t4 t4"));
        CHECK.is("run: -1 as the last block is left", 'f', keepsOn("s1 t4 t4 t8"));
        CHECK.is("run: -1 ahead of a fall", 'f', keepsOn("s1 t16 t1,-9,0 l1,9,0"));
        CHECK.is("run: 1 as a lift is ahead", '.', keepsOn("s1 t8 l1 t20"));
        CHECK.is("run: 0 behind a lift, a rise of 2", '.', keepsOn("s1 l1,-2,0 t1,2,0 b1"));
        CHECK.is("run: -1 behind a lift, a rise of 2", 'f', keepsOn("s1 l1,-2,0 t5,2,0 b1"));
        brakeKeepsABadRun();
    }

    private static void brakeKeepsABadRun() {
        Coasterland park = Parks.working(0, "s1 b1 t16 t1", 1);
        park.dispatch(0);
        park.tick(20);
        CHECK.is("run: a bad one from a brake may not begin", 1, park.blockOf(0, 0));
        CHECK.is("run: so it stands", 's', park.stateOf(0, 0));
    }

    /** "The next block of the last one is the block 0." */
    private static void theLastBlockAndTheStation() {
        for (int last = 3; last < 12; last++) {
            StringBuilder blocks = new StringBuilder("s1");
            for (int i = 0; i < last; i++) {
                blocks.append(" b1");
            }
            Coasterland park = Parks.working(0, blocks.toString(), 1);
            park.dispatch(0);
            park.tick(2 * last - 1);
            CHECK.is("ring: the last block " + last, last, park.blockOf(0, 0));
            CHECK.is("ring: it does not hold the station yet", false, park.isHeld(0, 0));
            park.tick(1);
            CHECK.is("ring: it takes the station", true, park.isHeld(0, 0));
            CHECK.is("ring: it is still there", last, park.blockOf(0, 0));
            park.tick(1);
            CHECK.is("ring: behind it the block 0", 0, park.blockOf(0, 0));
            CHECK.is("ring: the last one is given back", false, park.isHeld(0, last));
        }
        Coasterland plain = Parks.working(0, "s1 l1 t1 t1 t1 t1", 1);
        plain.dispatch(0);
        plain.tick(6);
        CHECK.is("ring: the last block is plain track", 5, plain.blockOf(0, 0));
        plain.tick(1);
        CHECK.is("ring: from it into the station", 0, plain.blockOf(0, 0));
        CHECK.is("ring: where it stands", 's', plain.stateOf(0, 0));
    }

    /** "Pushes a stalled train to the next stop": the nearest one, the station behind the last block too. */
    private static void pushedFromEachBlock() {
        pushed(1, 2, 4);
        pushed(2, 3, 4);
        pushed(5, 8, 0);
        pushed(6, 9, 0);
    }

    /** A wind in the tick in which a block would be left lets the train stall that a calm lets through. */
    private static void pushed(int block, int leaves, int stop) {
        Coasterland park = Parks.working(0, "s1 t8 t4 l1 b1 t8 t4", 1);
        park.dispatch(0);
        park.tick(leaves - 1);
        park.setWind(16);
        park.tick(1);
        CHECK.is("push: it has stalled in " + block, 'x', park.stateOf(0, 0));
        CHECK.is("push: there", block, park.blockOf(0, 0));
        CHECK.is("push: from " + block, stop, park.push(0, 0));
        CHECK.is("push: it is there", stop, park.blockOf(0, 0));
        CHECK.is("push: it stands", 's', park.stateOf(0, 0));
        CHECK.is("push: without energy", 0, park.energy(0, 0));
        for (int held = 0; held < 7; held++) {
            CHECK.is("push: held " + held, held == stop, park.isHeld(0, held));
        }
    }

    /** "Takes all blocks behind it up to the next stop, this one included, if no other train holds one of them." */
    private static void permits() {
        Coasterland park = Parks.working(0, "s1 t1 t1 b1 t1 b1", 1);
        park.dispatch(0);
        for (int block = 0; block < 6; block++) {
            CHECK.is("permit: from the station, block " + block, block <= 3, park.isHeld(0, block));
        }
        park.tick(2);
        for (int block = 0; block < 6; block++) {
            CHECK.is("permit: until it stands again, block " + block, block <= 3, park.isHeld(0, block));
        }
        park.tick(1);
        for (int block = 0; block < 6; block++) {
            CHECK.is("permit: as it stands, block " + block, block == 3, park.isHeld(0, block));
        }
        park.addTrain(0, 1);
        CHECK.is("permit: the next stop is held", 'r', park.keeps(0));
        park.tick(1);
        for (int block = 0; block < 6; block++) {
            CHECK.is("permit: from a brake, block " + block, block == 0 || block >= 3, park.isHeld(0, block));
        }
        CHECK.is("permit: held by a train that leaves it", 'r', park.keeps(0));
        park.tick(1);
        CHECK.is("permit: held by a train that has left it", 'r', park.keeps(0));
        park.tick(1);
        CHECK.is("permit: it stands at the stop behind that", '.', park.keeps(0));
        CHECK.is("permit: there", 5, park.blockOf(0, 0));
        park.dispatch(0);
        park.tick(1);
        CHECK.is("permit: into the station that was left", 5, park.blockOf(0, 0));
        park.tick(60);
        CHECK.is("permit: the one goes home", 0, park.blockOf(0, 0));
        CHECK.is("permit: the other one behind it", 5, park.blockOf(0, 1));
    }

    private static void firstReasonOfTwo() {
        String reasons = "oiwelfr";
        for (int first = 0; first < reasons.length(); first++) {
            for (int second = first; second < reasons.length(); second++) {
                Coasterland park = keptBy(reasons.charAt(first), reasons.charAt(second));
                CHECK.is("keeps: " + reasons.charAt(first) + " and " + reasons.charAt(second), reasons.charAt(first),
                        park.keeps(0));
            }
        }
    }

    private static Coasterland keptBy(char one, char other) {
        String both = "" + one + other;
        Coasterland park = new Coasterland();
        Parks.closed(park, 0, both.indexOf('w') >= 0 ? 9 : 40, 0,
                both.indexOf('f') >= 0 ? "s1 t16 b1 b1" : "s1 t1 b1 b1");
        park.addTrain(0, 1);
        park.addStaff(1);
        park.setWind(10);
        if (both.indexOf('r') >= 0) {
            park.setSensor(0, 2, 0, 'a');
            park.setSensor(0, 2, 1, 'a');
            park.reset(0);
        }
        if (both.indexOf('o') < 0) {
            park.assign(0, 0);
        }
        if (both.indexOf('i') < 0) {
            park.inspect(0, 0);
        }
        if (both.indexOf('e') >= 0) {
            park.setSensor(0, 3, 0, 'a');
        }
        if (both.indexOf('l') >= 0) {
            park.lock(0, 0);
        }
        return park;
    }

    /** "Or 50 trains have left the station since", brakes not counted. */
    private static void fiftyTrains() {
        Coasterland park = Parks.working(0, Parks.ONLY_STOPS, 1);
        for (int i = 0; i < 49; i++) {
            park.dispatch(0);
            park.tick(7);
        }
        CHECK.is("inspection: 49 have left", '.', park.keeps(0));
        CHECK.is("inspection: anew behind 49", 49, park.inspect(0, 0));
        for (int i = 0; i < 50; i++) {
            park.dispatch(0);
            park.tick(7);
        }
        CHECK.is("inspection: 50 have left", 'i', park.keeps(0));
        CHECK.fails("15: the 51st", Check.UNSUPPORTED, park, () -> park.dispatch(0));
        CHECK.is("inspection: all since then", 50, park.inspect(0, 0));
        CHECK.is("inspection: none since then", 0, park.inspect(0, 0));
        CHECK.is("inspection: cycles go on", 99, park.cycles(0));
        CHECK.is("inspection: and trains", '.', park.keeps(0));
    }

    /** "The last lightning less than 10 away was at most 15 ticks ago." */
    private static void fifteenTicks() {
        for (int distance = 8; distance <= 11; distance++) {
            Coasterland park = Parks.working(0, Parks.ONLY_STOPS, 1);
            park.tick(3);
            CHECK.is("lightning: " + distance + " away", distance < 10, park.strike(distance));
            CHECK.is("lightning: " + distance + " away, now", distance < 10 ? 'w' : '.', park.keeps(0));
        }
        Coasterland park = Parks.working(0, Parks.ONLY_STOPS, 1);
        park.strike(0);
        for (int ago = 0; ago <= 15; ago++) {
            CHECK.is("lightning: ticks ago " + ago, 'w', park.keeps(0));
            park.tick(1);
        }
        CHECK.is("lightning: 16 ticks ago", '.', park.keeps(0));
        park.strike(9);
        park.tick(15);
        park.strike(99);
        CHECK.is("lightning: a far one takes nothing away", 'w', park.keeps(0));
        park.tick(1);
        CHECK.is("lightning: and adds nothing", '.', park.keeps(0));
        CHECK.is("lightning: no wind has changed", 0, park.setWind(0));
    }

    /** "Unless a sensor is told to see always something, or never", in a block with a train (0) and in one without. */
    private static void processors() {
        for (char told0 : "tan".toCharArray()) {
            for (char told1 : "tan".toCharArray()) {
                seesAndTrips(told0, told1, 0);
                seesAndTrips(told0, told1, 3);
            }
        }
        Coasterland park = Parks.working(0, Parks.ONLY_STOPS, 1);
        char before = 't';
        for (char how : "antta".toCharArray()) {
            CHECK.is("11: how it did", before, park.setSensor(0, 3, 1, how));
            CHECK.is("11: the other one stays as it was", 't', park.setSensor(0, 3, 0, 't'));
            before = how;
        }
    }

    private static void seesAndTrips(char told0, char told1, int block) {
        String what = "processors: " + told0 + " and " + told1 + " in " + block + ", ";
        boolean sees0 = told0 == 'a' || told0 == 't' && block == 0;
        boolean sees1 = told1 == 'a' || told1 == 't' && block == 0;
        Coasterland park = Parks.working(0, Parks.ONLY_STOPS, 1);
        park.setSensor(0, block, 0, told0);
        CHECK.is(what + "the first one told", sees0 != (block == 0), park.hasTripped(0));
        boolean before = park.hasTripped(0);
        park.setSensor(0, block, 1, told1);
        CHECK.is(what + "seen by 0", sees0, park.sees(0, block, 0));
        CHECK.is(what + "seen by 1", sees1, park.sees(0, block, 1));
        CHECK.is(what + "tripped", before || sees0 != sees1, park.hasTripped(0));
        Object due = sees0 == sees1 && before ? 1 : Check.UNSUPPORTED;
        CHECK.is(what + "reset", due, Check.answer(() -> park.reset(0)));
    }

    /** "The ride trips, and trains that run go on to their stops", and no train leaves one. */
    private static void trippedOnTheWay() {
        Coasterland park = Parks.working(0, "s1 b1 b1 t1 t1 b1", 1);
        Parks.closed(park, 0, 40, 0, Parks.ONLY_STOPS);
        park.dispatch(0);
        park.setSensor(0, 3, 0, 'n');
        park.tick(4);
        CHECK.is("trip: not yet, as it leaves the brake", false, park.hasTripped(0));
        park.tick(1);
        CHECK.is("trip: behind the tick in which it comes there", true, park.hasTripped(0));
        CHECK.is("trip: it is there", 3, park.blockOf(0, 0));
        park.tick(2);
        CHECK.is("trip: it goes on to its stop", 5, park.blockOf(0, 0));
        park.tick(9);
        CHECK.is("trip: and stays there", 5, park.blockOf(0, 0));
        CHECK.is("trip: they see the same again, but it stays", true, park.hasTripped(0));
        CHECK.is("trip: not another ride", false, park.hasTripped(1));
        CHECK.is("trip: reset", 1, park.reset(0));
        park.tick(2);
        CHECK.is("trip: home", 0, park.blockOf(0, 0));
        inOneOfManyTicks();
        seenAheadOfTheTrip(0);
        seenAheadOfTheTrip(1);
    }

    /**
     * A processor that sees something in each tick sees it also in the very tick in which the train goes on from
     * there, ahead of the trip: the train behind it stays.
     */
    private static void seenAheadOfTheTrip(int processor) {
        Coasterland park = Parks.working(0, Parks.ONLY_STOPS, 1);
        park.dispatch(0);
        park.tick(1);
        park.addTrain(0, 1);
        park.tick(2);
        park.dispatch(0);
        park.tick(1);
        park.setSensor(0, 2, processor, 'a');
        CHECK.is("trip: the one leaves the block 2", 'm', park.stateOf(0, 0));
        CHECK.is("trip: the other one is in the block 1", 1, park.blockOf(0, 1));
        CHECK.is("trip: both see the first one", false, park.hasTripped(0));
        park.tick(1);
        CHECK.is("trip: it went on", 3, park.blockOf(0, 0));
        CHECK.is("trip: it is given back", false, park.isHeld(0, 2));
        CHECK.is("trip: but one sees something there", 's', park.stateOf(0, 1));
        CHECK.is("trip: behind the tick", true, park.hasTripped(0));
    }

    private static void inOneOfManyTicks() {
        Coasterland park = Parks.working(0, Parks.TWO_RUNS, 1);
        park.dispatch(0);
        park.setSensor(0, 2, 1, 'n');
        park.tick(60);
        CHECK.is("trip: looked at behind each of 60 ticks", true, park.hasTripped(0));
        CHECK.is("trip: it waits in the brake", 3, park.blockOf(0, 0));
    }
}
