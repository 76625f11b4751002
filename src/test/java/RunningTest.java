/** Promises 17, 29 to 31, 37 and 38: ticks, and where the trains are behind them. */
public final class RunningTest {
    private static final Check CHECK = new Check();

    private RunningTest() {
    }

    public static void main(String[] args) {
        tickArguments();
        oneRound();
        trainsByFallingBlocks();
        brakesKeepTrains();
        energies();
        stalling();
        windChangesUnderWay();
        recovery();
        blockOfEnergyStateOf();
        cycles();
        ridesAreTheirOwn();
        CHECK.end();
    }

    private static void tickArguments() {
        Coasterland park = new Coasterland();
        CHECK.fails("17: 0", Check.ARGUMENT, park, () -> park.tick(0));
        CHECK.fails("17: -1", Check.ARGUMENT, park, () -> park.tick(-1));
        CHECK.fails("17: 61", Check.ARGUMENT, park, () -> park.tick(61));
        CHECK.is("17: 1", 1, park.tick(1));
        CHECK.is("17: 60", 61, park.tick(60));
        CHECK.is("38: all of them", 61, park.ticks());
    }

    private static void isAt(Coasterland park, int train, int block, char state, int energy) {
        String when = "17: tick " + park.ticks() + ", train " + train;
        CHECK.is(when + ", block", block, park.blockOf(0, train));
        CHECK.is(when + ", state", state, park.stateOf(0, train));
        CHECK.is(when + ", energy", energy, park.energy(0, train));
        CHECK.holds(when + ", sound", park.isSound());
    }

    private static void oneRound() {
        Coasterland park = Parks.working(0, Parks.TWO_RUNS, 1);
        isAt(park, 0, 0, 's', 0);
        park.tick(3);
        isAt(park, 0, 0, 's', 0);
        park.dispatch(0);
        isAt(park, 0, 0, 'm', 0);
        int[] blocks = {1, 1, 2, 3, 3, 4, 0};
        int[] energies = {3, 3, 5, 0, 0, 3, 0};
        String states = "mmmsmms";
        for (int i = 0; i < blocks.length; i++) {
            park.tick(1);
            isAt(park, 0, blocks[i], states.charAt(i), energies[i]);
        }
        park.tick(5);
        isAt(park, 0, 0, 's', 0);

        Coasterland atOnce = Parks.working(0, Parks.TWO_RUNS, 1);
        atOnce.dispatch(0);
        atOnce.tick(6);
        isAt(atOnce, 0, 4, 'm', 3);
    }

    /** A train that comes to a stop makes way in the same tick for the one behind it. */
    private static void trainsByFallingBlocks() {
        Coasterland park = Parks.working(0, "s1 b1 b1 t1 b1 t1", 1);
        park.dispatch(0);
        park.tick(1);
        park.addTrain(0, 1);
        park.tick(2);
        isAt(park, 0, 2, 's', 0);
        park.dispatch(0);
        park.tick(1);
        isAt(park, 0, 2, 'm', 0);
        isAt(park, 1, 1, 's', 0);
        park.tick(1);
        isAt(park, 0, 3, 'm', 3);
        isAt(park, 1, 1, 's', 0);
        park.tick(1);
        isAt(park, 0, 4, 's', 0);
        isAt(park, 1, 1, 'm', 0);
        stationBehindTheLastBlock();
    }

    /** The train in the last block is looked at ahead of the one that leaves the station. */
    private static void stationBehindTheLastBlock() {
        Coasterland park = Parks.working(0, Parks.ONLY_STOPS, 1);
        park.dispatch(0);
        park.tick(1);
        park.addTrain(0, 1);
        park.tick(6);
        isAt(park, 0, 3, 's', 0);
        park.dispatch(0);
        park.tick(1);
        isAt(park, 0, 3, 's', 0);
        isAt(park, 1, 1, 's', 0);
        park.tick(1);
        isAt(park, 0, 3, 'm', 0);
        isAt(park, 1, 1, 'm', 0);
        park.tick(1);
        isAt(park, 0, 0, 's', 0);
        isAt(park, 1, 2, 's', 0);
    }

    private static Coasterland inTheBrake() {
        Coasterland park = Parks.working(0, "s1 b1 t8,0,8 t4,0,5", 1);
        park.dispatch(0);
        park.tick(1);
        return park;
    }

    private static void brakesKeepTrains() {
        Coasterland locked = inTheBrake();
        locked.lock(0, 0);
        locked.tick(3);
        isAt(locked, 0, 1, 's', 0);
        locked.unlock(0, 0);
        locked.tick(1);
        isAt(locked, 0, 1, 'm', 0);
        locked.lock(0, 0);
        locked.tick(1);
        isAt(locked, 0, 2, 'm', 3);

        Coasterland windy = inTheBrake();
        windy.setWind(16);
        windy.tick(3);
        isAt(windy, 0, 1, 's', 0);
        windy.setWind(15);
        windy.tick(1);
        isAt(windy, 0, 1, 'm', 0);

        Coasterland seen = inTheBrake();
        seen.setSensor(0, 0, 0, 'a');
        seen.setSensor(0, 0, 1, 'a');
        seen.tick(2);
        isAt(seen, 0, 1, 's', 0);
        seen.reset(0);
        seen.tick(2);
        isAt(seen, 0, 1, 's', 0);
        seen.setSensor(0, 0, 0, 'n');
        seen.setSensor(0, 0, 1, 'n');
        seen.reset(0);
        seen.tick(1);
        isAt(seen, 0, 1, 'm', 0);
        onlyTheStationMinds();
    }

    private static void onlyTheStationMinds() {
        Coasterland park = new Coasterland();
        Parks.closed(park, 0, 5, 0, Parks.ONLY_STOPS);
        Parks.staff(park, 0);
        park.addTrain(0, 1);
        park.dispatch(0);
        park.tick(1);
        park.setWind(6);
        park.strike(0);
        park.tick(2);
        isAt(park, 0, 2, 's', 0);
        park.tick(10);
        isAt(park, 0, 0, 's', 0);
        CHECK.is("17: and not by itself out of the station", 1, park.cycles(0));
    }

    private static void energies() {
        Coasterland park = Parks.working(0, "s1 t5,-3,0 t1,1,0 l4,2,0 t9,0,0", 1);
        park.setWind(15);
        park.dispatch(0);
        int[] blocks = {1, 2, 3, 3, 4, 0};
        int[] due = {3, 7, 4, 4, 5, 0};
        for (int i = 0; i < blocks.length; i++) {
            park.tick(1);
            isAt(park, 0, blocks[i], blocks[i] == 0 ? 's' : 'm', due[i]);
        }
    }

    private static void stalling() {
        Coasterland park = Parks.working(0, "s1 t5,-3,0 t1,1,0 l4,2,0 t9,0,0", 1);
        park.dispatch(0);
        park.setWind(16);
        int[] blocks = {1, 2, 3, 3, 4, 4, 4};
        int[] due = {3, 5, 1, 1, 5, 5, 5};
        for (int i = 0; i < blocks.length; i++) {
            park.tick(1);
            isAt(park, 0, blocks[i], i < 5 ? 'm' : 'x', due[i]);
        }
        park.setWind(0);
        park.tick(5);
        isAt(park, 0, 4, 'x', 5);
    }

    private static void windChangesUnderWay() {
        Coasterland park = Parks.working(0, Parks.WEAK, 1);
        park.dispatch(0);
        park.setWind(16);
        park.tick(1);
        isAt(park, 0, 1, 'm', 3);
        park.setWind(0);
        park.tick(1);
        isAt(park, 0, 2, 'm', 1);
        park.setWind(16);
        park.tick(1);
        isAt(park, 0, 2, 'x', 1);

        Coasterland justEnough = Parks.working(0, Parks.WEAK, 1);
        justEnough.dispatch(0);
        justEnough.tick(3);
        isAt(justEnough, 0, 3, 's', 0);
    }

    private static void recovery() {
        Coasterland park = Parks.working(0, Parks.TWO_RUNS, 1);
        Parks.enter(park, 3, 100, 0);
        park.queue(2, 0, 'l');
        park.eat(0);
        park.eat(0);
        park.eat(1);
        park.queue(1, 0, 's');
        park.tick(3);
        park.dispatch(0);
        park.tick(6);
        CHECK.is("17: not in the ninth tick", 6, park.get(0, 'n'));
        park.tick(1);
        CHECK.is("17: in the tenth", 5, park.get(0, 'n'));
        CHECK.is("17: not in a queue", 3, park.get(1, 'n'));
        CHECK.is("17: behind the rides, for one who leaves a train", 5, park.get(2, 'n'));
        park.tick(9);
        CHECK.is("17: not in the 19th", 5, park.get(0, 'n'));
        park.tick(41);
        CHECK.is("17: at 60", 0, park.get(0, 'n'));
        park.tick(20);
        CHECK.is("17: never below 0", 0, park.get(0, 'n'));
        CHECK.is("17: in the queue still", 3, park.get(1, 'n'));
    }

    private static void blockOfEnergyStateOf() {
        Coasterland park = new Coasterland();
        CHECK.fails("29: no ride", Check.INDEX, park, () -> park.blockOf(0, 0));
        CHECK.fails("30: no ride", Check.INDEX, park, () -> park.energy(0, 0));
        CHECK.fails("31: no ride", Check.INDEX, park, () -> park.stateOf(0, 0));
        Parks.closed(park, 0, 40, 0, Parks.TWO_RUNS);
        CHECK.fails("29: no train", Check.INDEX, park, () -> park.blockOf(0, 0));
        CHECK.fails("30: no train", Check.INDEX, park, () -> park.energy(0, 0));
        CHECK.fails("31: no train", Check.INDEX, park, () -> park.stateOf(0, 0));
        park.addTrain(0, 1);
        CHECK.fails("29: train -1", Check.INDEX, park, () -> park.blockOf(0, -1));
        CHECK.fails("30: train 4", Check.INDEX, park, () -> park.energy(0, 4));
        CHECK.fails("31: train 1", Check.INDEX, park, () -> park.stateOf(0, 1));
        CHECK.fails("29: ride -1", Check.INDEX, park, () -> park.blockOf(-1, 0));
        CHECK.fails("30: ride 4", Check.INDEX, park, () -> park.energy(4, 0));
        CHECK.fails("31: ride 1", Check.INDEX, park, () -> park.stateOf(1, 0));
        CHECK.is("29: in the station", 0, park.blockOf(0, 0));
        CHECK.is("30: in the station", 0, park.energy(0, 0));
        CHECK.is("31: in the station", 's', park.stateOf(0, 0));
    }

    private static void cycles() {
        Coasterland park = Parks.working(0, Parks.ONLY_STOPS, 1);
        CHECK.fails("37: no ride", Check.INDEX, park, () -> park.cycles(1));
        CHECK.fails("37: ride -1", Check.INDEX, park, () -> park.cycles(-1));
        CHECK.is("37: none", 0, park.cycles(0));
        park.dispatch(0);
        CHECK.is("37: as it is dispatched", 1, park.cycles(0));
        park.tick(20);
        CHECK.is("37: brakes do not count", 1, park.cycles(0));
        park.inspect(0, 0);
        park.dispatch(0);
        CHECK.is("37: whatever was inspected", 2, park.cycles(0));
    }

    private static void ridesAreTheirOwn() {
        Coasterland park = Parks.working(0, Parks.TWO_RUNS, 1);
        Parks.closed(park, 0, 40, 0, Parks.ONLY_STOPS);
        Parks.staff(park, 1);
        park.addTrain(1, 1);
        park.lock(1, 0);
        park.dispatch(0);
        CHECK.is("24: a lock on another ride", '.', park.unlock(1, 0) == 0 ? park.keeps(1) : '?');
        park.tick(2);
        CHECK.is("17: the one runs", 1, park.blockOf(0, 0));
        CHECK.is("17: the other one stands", 's', park.stateOf(1, 0));
        park.dispatch(1);
        park.tick(2);
        CHECK.is("17: the one", 3, park.blockOf(0, 0));
        CHECK.is("17: the other one", 1, park.blockOf(1, 0));
        CHECK.is("17: it leaves its brake", 'm', park.stateOf(1, 0));
        CHECK.is("37: each counts for itself", 1, park.cycles(1));
    }
}
