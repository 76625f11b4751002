/** Promises 11 to 16 and 24 to 28: sensors, weather, what keeps a train, forces and pushing. */
public final class SafetyTest {
    private static final Check CHECK = new Check();

    private SafetyTest() {
    }

    public static void main(String[] args) {
        setSensor();
        setSensorOnAnOpenRing();
        reset();
        setWind();
        strike();
        dispatchAndKeeps();
        orderOfReasons();
        whatIsInTheWay();
        badRuns();
        push();
        pushIntoTheStation();
        force();
        isHeld();
        sees();
        hasTripped();
        CHECK.end();
    }

    private static void setSensor() {
        Coasterland park = new Coasterland();
        CHECK.fails("11: no ride", Check.INDEX, park, () -> park.setSensor(0, 0, 0, 'x'));
        Parks.closed(park, 0, 40, 0, Parks.ONLY_STOPS);
        CHECK.fails("11: block -1", Check.INDEX, park, () -> park.setSensor(0, -1, 0, 'a'));
        CHECK.fails("11: block 4", Check.INDEX, park, () -> park.setSensor(0, 4, 0, 'a'));
        CHECK.fails("11: processor 2", Check.INDEX, park, () -> park.setSensor(0, 0, 2, 'a'));
        CHECK.fails("11: processor -1", Check.INDEX, park, () -> park.setSensor(0, 0, -1, 'x'));
        CHECK.fails("11: way x", Check.ARGUMENT, park, () -> park.setSensor(0, 0, 0, 'x'));
        CHECK.is("11: never, nothing there", 't', park.setSensor(0, 1, 0, 'n'));
        CHECK.is("11: they see the same", false, park.hasTripped(0));
        CHECK.is("11: always", 'n', park.setSensor(0, 1, 0, 'a'));
        CHECK.is("11: they see otherwise", true, park.hasTripped(0));
        CHECK.is("11: the other processor is its own", 't', park.setSensor(0, 1, 1, 'n'));
        CHECK.is("11: the truth again", 'a', park.setSensor(0, 1, 0, 't'));
        CHECK.is("11: it stays tripped", true, park.hasTripped(0));
    }

    private static void setSensorOnAnOpenRing() {
        Coasterland park = new Coasterland();
        Parks.open(park, 0, 40, 0, "s1");
        CHECK.is("11: on an open ring", 't', park.setSensor(0, 0, 1, 'a'));
        CHECK.is("11: it trips too", true, park.hasTripped(0));
        CHECK.is("11: it is seen", true, park.sees(0, 0, 1));
    }

    private static void reset() {
        Coasterland park = Parks.working(0, Parks.WEAK, 1);
        CHECK.fails("12: no ride", Check.INDEX, park, () -> park.reset(1));
        CHECK.fails("12: ride -1", Check.INDEX, park, () -> park.reset(-1));
        CHECK.fails("12: not tripped", Check.UNSUPPORTED, park, () -> park.reset(0));
        park.setSensor(0, 3, 1, 'a');
        CHECK.fails("12: they see otherwise", Check.UNSUPPORTED, park, () -> park.reset(0));
        park.setSensor(0, 3, 1, 'n');
        CHECK.is("12: reset", 1, park.reset(0));
        CHECK.is("12: it is so", false, park.hasTripped(0));
        CHECK.fails("12: twice", Check.UNSUPPORTED, park, () -> park.reset(0));
        park.dispatch(0);
        park.tick(1);
        park.setWind(16);
        park.tick(1);
        CHECK.is("12: it stalls", 'x', park.stateOf(0, 0));
        park.setSensor(0, 3, 1, 'a');
        park.setSensor(0, 3, 1, 't');
        CHECK.fails("12: a train has stalled", Check.UNSUPPORTED, park, () -> park.reset(0));
        park.push(0, 0);
        CHECK.is("12: it is pushed", 1, park.reset(0));
    }

    private static void setWind() {
        Coasterland park = new Coasterland();
        CHECK.is("13: first", 0, park.setWind(40));
        CHECK.fails("13: 41", Check.ARGUMENT, park, () -> park.setWind(41));
        CHECK.fails("13: -1", Check.ARGUMENT, park, () -> park.setWind(-1));
        CHECK.is("13: second", 40, park.setWind(0));
        CHECK.is("13: third", 0, park.setWind(1));

        Coasterland limited = new Coasterland();
        Parks.closed(limited, 0, 20, 0, Parks.ONLY_STOPS);
        Parks.staff(limited, 0);
        limited.addTrain(0, 1);
        limited.setWind(20);
        CHECK.is("13: at the limit", '.', limited.keeps(0));
        limited.setWind(21);
        CHECK.is("13: above it", 'w', limited.keeps(0));
    }

    private static void strike() {
        Coasterland park = Parks.working(0, Parks.ONLY_STOPS, 1);
        CHECK.fails("14: -1", Check.ARGUMENT, park, () -> park.strike(-1));
        CHECK.fails("14: 100", Check.ARGUMENT, park, () -> park.strike(100));
        CHECK.is("14: 10 away", false, park.strike(10));
        CHECK.is("14: 99 away", false, park.strike(99));
        CHECK.is("14: nothing near", '.', park.keeps(0));
        CHECK.is("14: 9 away", true, park.strike(9));
        CHECK.is("14: at once", 'w', park.keeps(0));
        park.tick(10);
        CHECK.is("14: a far one", false, park.strike(10));
        park.tick(5);
        CHECK.is("14: 15 ticks ago", 'w', park.keeps(0));
        park.tick(1);
        CHECK.is("14: 16 ticks ago", '.', park.keeps(0));
        CHECK.is("14: 0 away", true, park.strike(0));
        park.tick(10);
        park.strike(5);
        park.tick(15);
        CHECK.is("14: the last one counts", 'w', park.keeps(0));
        park.tick(1);
        CHECK.is("14: and no longer", '.', park.keeps(0));
    }

    private static void dispatchAndKeeps() {
        Coasterland park = new Coasterland();
        CHECK.fails("15: no ride", Check.INDEX, park, () -> park.dispatch(0));
        CHECK.fails("24: no ride", Check.INDEX, park, () -> park.keeps(0));
        Parks.open(park, 0, 20, 0, Parks.ONLY_STOPS);
        CHECK.is("24: not closed", 'n', park.keeps(0));
        park.close(0);
        CHECK.is("24: no train", 'n', park.keeps(0));
        park.addTrain(0, 1);
        CHECK.is("24: no operator", 'o', park.keeps(0));
        park.addStaff(1);
        park.assign(0, 0);
        CHECK.is("24: not inspected", 'i', park.keeps(0));
        park.inspect(0, 0);
        CHECK.is("24: nothing", '.', park.keeps(0));
        CHECK.is("15: nobody comes aboard", 0, park.dispatch(0));
        CHECK.is("15: it runs", 'm', park.stateOf(0, 0));
        CHECK.is("15: in the station still", 0, park.blockOf(0, 0));
        CHECK.is("24: none stands there", 'n', park.keeps(0));
        CHECK.fails("15: twice", Check.UNSUPPORTED, park, () -> park.dispatch(0));
        CHECK.fails("24: ride -1", Check.INDEX, park, () -> park.keeps(-1));
        CHECK.fails("15: ride 4", Check.INDEX, park, () -> park.dispatch(4));
    }

    /** Each reason is put ahead of all that were there, or taken away from before those that are left. */
    private static void orderOfReasons() {
        Coasterland park = new Coasterland();
        Parks.closed(park, 0, 20, 0, "s1 l1,0,9 t1,0,0 b1");
        park.addStaff(1);
        park.addTrain(0, 1);
        park.setSensor(0, 3, 0, 'a');
        park.setSensor(0, 3, 1, 'a');
        park.lock(0, 0);
        park.setWind(21);
        CHECK.is("24: operator, then the rest", 'o', park.keeps(0));
        park.assign(0, 0);
        CHECK.is("24: inspection, then the rest", 'i', park.keeps(0));
        park.inspect(0, 0);
        CHECK.is("24: wind, then the rest", 'w', park.keeps(0));
        park.setWind(20);
        CHECK.is("24: tripped, then the rest", 'e', park.keeps(0));
        park.reset(0);
        CHECK.is("24: lock, then the rest", 'l', park.keeps(0));
        park.unlock(0, 0);
        CHECK.is("24: bad run, then the rest", 'f', park.keeps(0));
        CHECK.fails("15: a bad run", Check.UNSUPPORTED, park, () -> park.dispatch(0));
        park.strike(0);
        CHECK.is("24: lightning ahead of the run", 'w', park.keeps(0));
        CHECK.fails("15: lightning", Check.UNSUPPORTED, park, () -> park.dispatch(0));
    }

    private static void whatIsInTheWay() {
        Coasterland park = Parks.working(0, Parks.TWO_RUNS, 1);
        for (int processor = 0; processor < 2; processor++) {
            park.setSensor(0, 4, processor, 'a');
        }
        park.reset(0);
        CHECK.is("24: what is seen behind the next stop", '.', park.keeps(0));
        seeAlways(park, 0);
        CHECK.is("24: what is seen in the own block", '.', park.keeps(0));
        seeAlways(park, 3);
        CHECK.is("24: what is seen in the next stop", 'r', park.keeps(0));
        CHECK.fails("15: what is seen", Check.UNSUPPORTED, park, () -> park.dispatch(0));
        park.setSensor(0, 3, 0, 't');
        park.setSensor(0, 3, 1, 't');
        park.reset(0);
        CHECK.is("24: nothing there any more", '.', park.keeps(0));
        CHECK.is("15: goes", 0, park.dispatch(0));
        CHECK.is("15: holds the own block", true, park.isHeld(0, 0));
        CHECK.is("15: holds the next stop", true, park.isHeld(0, 3));
        CHECK.is("15: holds nothing behind it", false, park.isHeld(0, 4));
        park.tick(4);
        park.addTrain(0, 1);
        CHECK.is("24: a train stands at the next stop", 'r', park.keeps(0));

        Coasterland oneStop = Parks.working(0, "s1 t1 t1 t1", 1);
        seeAlways(oneStop, 0);
        CHECK.is("24: the own block is the next stop", '.', oneStop.keeps(0));
        CHECK.is("15: round to it", 0, oneStop.dispatch(0));
        CHECK.is("15: all is held", true, oneStop.isHeld(0, 3));
    }

    /** Tells both processors to see something, and resets the ride that trips between the two. */
    private static void seeAlways(Coasterland park, int block) {
        park.setSensor(0, block, 0, 'a');
        park.setSensor(0, block, 1, 'a');
        if (park.hasTripped(0)) {
            park.reset(0);
        }
    }

    private static char keepsOn(String blocks, int wind) {
        Coasterland park = Parks.working(0, blocks, 1);
        park.setWind(wind);
        return park.keeps(0);
    }

    private static void badRuns() {
        CHECK.is("24: force 6", '.', keepsOn("s1 l1 t4,0,4 b1", 0));
        CHECK.is("24: force 7", 'f', keepsOn("s1 l1 t4,0,5 b1", 0));
        CHECK.is("24: 5, 6, 5", 'f', keepsOn("s1 l2,0,3 t4,0,4 t4,0,4 b1", 0));
        CHECK.is("24: 5, 6, 4", '.', keepsOn("s1 l2,0,3 t4,0,4 t4,0,3 b1", 0));
        CHECK.is("24: 5, 6, 1, 6, 6", '.', keepsOn("s1 l2,0,3 t4,0,4 l1 l4,0,4 t4,0,4 b1", 0));
        CHECK.is("24: 5, 6, 1, 6, 6, 5", 'f', keepsOn("s1 l2,0,3 t4,0,4 l1 l5,0,5 t4,0,4 t4,0,4 b1", 0));
        CHECK.is("24: 5, 6, a stop, 5", '.', keepsOn("s1 l2,0,3 t4,0,4 b1 l2,0,3", 0));
        CHECK.is("24: left with 0", '.', keepsOn("s1 t12,0,0 b1 b1", 0));
        CHECK.is("24: left with -1, length rounded up", 'f', keepsOn("s1 t13,0,0 b1 b1", 0));
        CHECK.is("24: a rise of 1", '.', keepsOn("s1 t4,1,0 l1,-1,0 b1", 0));
        CHECK.is("24: a rise of 1, one longer", 'f', keepsOn("s1 t5,1,0 l1,-1,0 b1", 0));
        CHECK.is("24: a wind of 15", '.', keepsOn("s1 t12,0,0 b1 b1", 15));
        CHECK.is("24: a wind of 16", 'f', keepsOn("s1 t12,0,0 b1 b1", 16));
        CHECK.is("24: twice the rounded length", 'f', keepsOn("s1 t5,0,0 b1 b1", 16));
        CHECK.is("24: a short one in the wind", '.', keepsOn("s1 t4,0,0 b1 b1", 16));
        CHECK.is("24: a lift does not tire", '.', keepsOn("s1 l20,9,0 t20,-9,0 b1", 16));
        CHECK.is("24: a later run is not looked at", '.', keepsOn("s1 b1 t20,0,0 b1", 0));
    }

    private static void push() {
        Coasterland park = Parks.working(5, Parks.WEAK, 2);
        CHECK.fails("16: no ride", Check.INDEX, park, () -> park.push(1, 0));
        CHECK.fails("16: no train", Check.INDEX, park, () -> park.push(0, 1));
        CHECK.fails("16: train -1", Check.INDEX, park, () -> park.push(0, -1));
        CHECK.fails("16: it stands", Check.UNSUPPORTED, park, () -> park.push(0, 0));
        park.enter(10, 100, 0);
        park.queue(0, 0, 'l');
        park.dispatch(0);
        park.tick(2);
        CHECK.fails("16: it runs", Check.UNSUPPORTED, park, () -> park.push(0, 0));
        park.setWind(16);
        park.tick(1);
        CHECK.is("16: it stalls", 'x', park.stateOf(0, 0));
        CHECK.is("16: it stalls there", 2, park.blockOf(0, 0));
        CHECK.is("16: its energy stays", 1, park.energy(0, 0));
        for (int block = 0; block < 4; block++) {
            CHECK.is("16: nothing is given back", true, park.isHeld(0, block));
        }
        park.tick(5);
        CHECK.is("16: it stays so", 'x', park.stateOf(0, 0));
        park.setSensor(0, 3, 0, 'n');
        CHECK.is("16: not tripped ahead of it", false, park.hasTripped(0));
        CHECK.is("16: to the brake", 3, park.push(0, 0));
        CHECK.is("16: looked at behind it", true, park.hasTripped(0));
        CHECK.is("16: it stands", 's', park.stateOf(0, 0));
        CHECK.is("16: without energy", 0, park.energy(0, 0));
        CHECK.is("16: it holds its block", true, park.isHeld(0, 3));
        CHECK.is("16: and gave the rest back", false, park.isHeld(0, 0));
        CHECK.is("16: the guest stays aboard", 1, park.aboard(0, 0));
        park.tick(3);
        CHECK.is("16: the ride has tripped", 's', park.stateOf(0, 0));
        park.setSensor(0, 3, 0, 't');
        park.reset(0);
        park.tick(2);
        CHECK.is("16: home", 0, park.blockOf(0, 0));
        CHECK.is("16: the force of the block 1, 4, as it was", 4, park.get(0, 'n'));
    }

    private static void pushIntoTheStation() {
        Coasterland park = Parks.working(0, "s1 b1 t8,0,8 t4,0,9", 2);
        park.enter(10, 100, 0);
        park.queue(0, 0, 'l');
        park.dispatch(0);
        park.tick(3);
        CHECK.is("16: under way", 2, park.blockOf(0, 0));
        park.setWind(30);
        park.tick(1);
        CHECK.is("16: stalled", 'x', park.stateOf(0, 0));
        CHECK.is("16: aboard", 't', park.whereIs(0));
        CHECK.is("16: to the station", 0, park.push(0, 0));
        CHECK.is("16: the guest leaves", 'p', park.whereIs(0));
        CHECK.is("16: no force where it was pushed", 4, park.get(0, 'n'));
        CHECK.is("16: a ride is done", 1, park.get(0, 'r'));
        CHECK.is("16: none aboard", 0, park.aboard(0, 0));
        CHECK.is("16: only the station is held", false, park.isHeld(0, 2));
    }

    private static void force() {
        Coasterland park = new Coasterland();
        CHECK.fails("25: no ride", Check.INDEX, park, () -> park.force(0, 0));
        Parks.open(park, 0, 40, 0, "s1 t8,0,8 t20,0,9");
        CHECK.fails("25: not closed", Check.UNSUPPORTED, park, () -> park.force(0, 0));
        CHECK.fails("25: no block in an open ring", Check.INDEX, park, () -> park.force(0, 3));
        park.addBlock(0, 't', 4, 0, 9);
        park.addBlock(0, 'b', 4, 0, 0);
        park.addBlock(0, 't', 5, 0, 9);
        park.addBlock(0, 'l', 2, 0, 3);
        park.addBlock(0, 't', 2, 0, 3);
        park.close(0);
        CHECK.fails("25: block -1", Check.INDEX, park, () -> park.force(0, -1));
        CHECK.fails("25: block 8", Check.INDEX, park, () -> park.force(0, 8));
        int[] due = {0, 4, 1, 0, 0, 6, 2, 8};
        for (int block = 0; block < due.length; block++) {
            CHECK.is("25: force(0, " + block + ")", due[block], park.force(0, block));
        }
        park.setWind(16);
        int[] dueInWind = {0, 4, 0, 0, 0, 6, 0, 0};
        for (int block = 0; block < dueInWind.length; block++) {
            CHECK.is("25: in the wind, force(0, " + block + ")", dueInWind[block], park.force(0, block));
        }
        forceOnSlopes();
    }

    private static void forceOnSlopes() {
        Coasterland park = new Coasterland();
        Parks.closed(park, 0, 40, 0, "s1 t1,-9,1 t1,9,9 t3,0,9 b1");
        CHECK.is("25: in with 3", 4, park.force(0, 1));
        CHECK.is("25: in with 20", 181, park.force(0, 2));
        CHECK.is("25: in with 1", 4, park.force(0, 3));
        Parks.closed(park, 0, 40, 0, "s1 t12,0,0 t4,-1,9 l1,1,0");
        CHECK.is("25: in with 0", 1, park.force(1, 2));
        CHECK.is("25: behind it, in with 1", 1, park.force(1, 3));
    }

    private static void isHeld() {
        Coasterland park = new Coasterland();
        CHECK.fails("26: no ride", Check.INDEX, park, () -> park.isHeld(0, 0));
        Parks.open(park, 0, 40, 0, "s1 b1 b1");
        CHECK.fails("26: no block", Check.INDEX, park, () -> park.isHeld(0, 3));
        CHECK.fails("26: block -1", Check.INDEX, park, () -> park.isHeld(0, -1));
        CHECK.is("26: by none", false, park.isHeld(0, 0));
        park.addBlock(0, 'b', 1, 0, 0);
        park.close(0);
        Parks.staff(park, 0);
        park.addTrain(0, 1);
        CHECK.is("26: it stands there", true, park.isHeld(0, 0));
        CHECK.is("26: but not there", false, park.isHeld(0, 1));
        park.dispatch(0);
        CHECK.is("26: it leaves it", true, park.isHeld(0, 0));
        CHECK.is("26: it comes there", true, park.isHeld(0, 1));
        park.tick(1);
        CHECK.is("26: it has left it", false, park.isHeld(0, 0));
        CHECK.is("26: not taken yet", false, park.isHeld(0, 2));
        park.tick(1);
        CHECK.is("26: taken", true, park.isHeld(0, 2));
        CHECK.is("26: held still", true, park.isHeld(0, 1));
    }

    private static void sees() {
        Coasterland park = new Coasterland();
        CHECK.fails("27: no ride", Check.INDEX, park, () -> park.sees(0, 0, 0));
        Parks.closed(park, 0, 40, 0, Parks.ONLY_STOPS);
        CHECK.fails("27: no block", Check.INDEX, park, () -> park.sees(0, 4, 0));
        CHECK.fails("27: block -1", Check.INDEX, park, () -> park.sees(0, -1, 0));
        CHECK.fails("27: processor 2", Check.INDEX, park, () -> park.sees(0, 0, 2));
        CHECK.fails("27: processor -1", Check.INDEX, park, () -> park.sees(0, 0, -1));
        Parks.staff(park, 0);
        CHECK.is("27: nothing there", false, park.sees(0, 0, 0));
        park.addTrain(0, 1);
        CHECK.is("27: a train, by 0", true, park.sees(0, 0, 0));
        CHECK.is("27: a train, by 1", true, park.sees(0, 0, 1));
        park.dispatch(0);
        CHECK.is("27: held, but no train in it", false, park.sees(0, 1, 0));
        park.setSensor(0, 0, 0, 'n');
        CHECK.is("27: never", false, park.sees(0, 0, 0));
        CHECK.is("27: the other one", true, park.sees(0, 0, 1));
        park.setSensor(0, 3, 1, 'a');
        CHECK.is("27: always", true, park.sees(0, 3, 1));
        CHECK.is("27: the other one", false, park.sees(0, 3, 0));
    }

    private static void hasTripped() {
        Coasterland park = Parks.working(0, Parks.ONLY_STOPS, 1);
        CHECK.fails("28: no ride", Check.INDEX, park, () -> park.hasTripped(1));
        CHECK.fails("28: ride -1", Check.INDEX, park, () -> park.hasTripped(-1));
        CHECK.is("28: at first", false, park.hasTripped(0));
        park.setSensor(0, 1, 0, 'n');
        CHECK.is("28: nothing is there to be missed", false, park.hasTripped(0));
        park.dispatch(0);
        CHECK.is("28: it is not there yet", false, park.hasTripped(0));
        park.tick(1);
        CHECK.is("28: looked at behind the tick", true, park.hasTripped(0));
        park.tick(3);
        CHECK.is("28: it stays in its brake", 's', park.stateOf(0, 0));
        CHECK.is("28: that one", 1, park.blockOf(0, 0));
        park.setSensor(0, 1, 0, 't');
        park.tick(3);
        CHECK.is("28: until it is reset", true, park.hasTripped(0));
        park.reset(0);
        park.tick(2);
        CHECK.is("28: it goes on", 2, park.blockOf(0, 0));

        Coasterland running = Parks.working(0, Parks.TWO_RUNS, 1);
        running.dispatch(0);
        running.tick(1);
        running.setSensor(0, 4, 1, 'a');
        running.tick(3);
        CHECK.is("28: a train that runs goes on", 3, running.blockOf(0, 0));
        CHECK.is("28: to its stop", 's', running.stateOf(0, 0));
        running.addRide(0, 0, 0);
        CHECK.is("28: another ride is not concerned", false, running.hasTripped(1));
    }
}
