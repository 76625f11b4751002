/** Promises 1 to 10: a new park, rides, rings, trains and staff. */
public final class BuildingTest {
    private static final Check CHECK = new Check();

    private BuildingTest() {
    }

    public static void main(String[] args) {
        newPark();
        addRide();
        addBlock();
        close();
        addTrain();
        addStaff();
        assign();
        inspect();
        lockAndUnlock();
        CHECK.end();
    }

    private static void newPark() {
        Coasterland park = new Coasterland();
        CHECK.is("1: ticks()", 0, park.ticks());
        CHECK.is("1: guests()", 0, park.guests());
        CHECK.is("1: till()", 0L, park.till());
        CHECK.is("1: allMoney()", 0L, park.allMoney());
        CHECK.is("1: setWind(7)", 0, park.setWind(7));
        CHECK.holds("1: isSound()", park.isSound());
        CHECK.fails("1: cycles(0)", Check.INDEX, park, () -> park.cycles(0));
        CHECK.fails("1: whereIs(0)", Check.INDEX, park, () -> park.whereIs(0));
        CHECK.fails("1: lock(0, 0)", Check.INDEX, park, () -> park.lock(0, 0));
        CHECK.is("1: addRide", 0, park.addRide(0, 0, 0));
    }

    private static void addRide() {
        Coasterland park = new Coasterland();
        CHECK.fails("2: height -1", Check.ARGUMENT, park, () -> park.addRide(-1, 0, 0));
        CHECK.fails("2: height 251", Check.ARGUMENT, park, () -> park.addRide(251, 0, 0));
        CHECK.fails("2: wind -1", Check.ARGUMENT, park, () -> park.addRide(0, -1, 0));
        CHECK.fails("2: wind 41", Check.ARGUMENT, park, () -> park.addRide(0, 41, 0));
        CHECK.fails("2: price -1", Check.ARGUMENT, park, () -> park.addRide(0, 0, -1));
        CHECK.fails("2: price 100", Check.ARGUMENT, park, () -> park.addRide(0, 0, 100));
        CHECK.is("2: least numbers", 0, park.addRide(0, 0, 0));
        CHECK.is("2: greatest numbers", 1, park.addRide(250, 40, 99));
        CHECK.is("2: third", 2, park.addRide(1, 2, 3));
        CHECK.is("2: fourth", 3, park.addRide(1, 2, 3));
        CHECK.fails("2: fifth", Check.STATE, park, () -> park.addRide(1, 2, 3));
        CHECK.fails("2: fifth, out of range", Check.ARGUMENT, park, () -> park.addRide(1, 2, 100));
        CHECK.fails("2: an empty ring", Check.INDEX, park, () -> park.isHeld(0, 0));
    }

    private static void addBlock() {
        Coasterland park = new Coasterland();
        CHECK.fails("3: no ride", Check.INDEX, park, () -> park.addBlock(0, 'x', 0, 0, 0));
        park.addRide(0, 0, 0);
        CHECK.fails("3: ride -1", Check.INDEX, park, () -> park.addBlock(-1, 's', 1, 0, 0));
        CHECK.fails("3: ride 1", Check.INDEX, park, () -> park.addBlock(1, 's', 1, 0, 0));
        CHECK.fails("3: kind x", Check.ARGUMENT, park, () -> park.addBlock(0, 'x', 1, 0, 0));
        CHECK.fails("3: kind S", Check.ARGUMENT, park, () -> park.addBlock(0, 'S', 1, 0, 0));
        CHECK.fails("3: length 0", Check.ARGUMENT, park, () -> park.addBlock(0, 't', 0, 0, 0));
        CHECK.fails("3: length 21", Check.ARGUMENT, park, () -> park.addBlock(0, 't', 21, 0, 0));
        CHECK.fails("3: rise -10", Check.ARGUMENT, park, () -> park.addBlock(0, 't', 1, -10, 0));
        CHECK.fails("3: rise 10", Check.ARGUMENT, park, () -> park.addBlock(0, 'l', 1, 10, 0));
        CHECK.fails("3: bend -1", Check.ARGUMENT, park, () -> park.addBlock(0, 't', 1, 0, -1));
        CHECK.fails("3: bend 10", Check.ARGUMENT, park, () -> park.addBlock(0, 't', 1, 0, 10));
        CHECK.fails("3: a station with a rise", Check.ARGUMENT, park, () -> park.addBlock(0, 's', 1, 1, 0));
        CHECK.fails("3: a station with a bend", Check.ARGUMENT, park, () -> park.addBlock(0, 's', 1, 0, 1));
        CHECK.fails("3: a brake that falls", Check.ARGUMENT, park, () -> park.addBlock(0, 'b', 1, -1, 0));
        CHECK.fails("3: a brake with a bend", Check.ARGUMENT, park, () -> park.addBlock(0, 'b', 1, 0, 1));
        CHECK.is("3: station", 0, park.addBlock(0, 's', 20, 0, 0));
        CHECK.is("3: lift", 1, park.addBlock(0, 'l', 1, 9, 9));
        CHECK.is("3: plain", 2, park.addBlock(0, 't', 20, -9, 9));
        for (int i = 3; i < 12; i++) {
            CHECK.is("3: brake", i, park.addBlock(0, 'b', 1, 0, 0));
        }
        CHECK.fails("3: the 13th", Check.STATE, park, () -> park.addBlock(0, 'b', 1, 0, 0));
        CHECK.fails("3: the 13th, wrong", Check.ARGUMENT, park, () -> park.addBlock(0, 'b', 1, 1, 0));
        park.close(0);
        CHECK.fails("3: closed and full", Check.UNSUPPORTED, park, () -> park.addBlock(0, 'b', 1, 0, 0));
        CHECK.fails("3: closed, wrong", Check.ARGUMENT, park, () -> park.addBlock(0, 'q', 1, 0, 0));
        int small = Parks.closed(park, 0, 0, 0, Parks.ONLY_STOPS);
        CHECK.fails("3: closed", Check.UNSUPPORTED, park, () -> park.addBlock(small, 'b', 1, 0, 0));
    }

    private static void close() {
        Coasterland park = new Coasterland();
        CHECK.fails("4: no ride", Check.INDEX, park, () -> park.close(0));
        Parks.open(park, 0, 0, 0, "s1 b1 b1");
        CHECK.fails("4: ride -1", Check.INDEX, park, () -> park.close(-1));
        CHECK.fails("4: three blocks", Check.UNSUPPORTED, park, () -> park.close(0));
        park.addBlock(0, 't', 1, 1, 0);
        CHECK.fails("4: a rise that is left", Check.UNSUPPORTED, park, () -> park.close(0));
        park.addBlock(0, 'l', 1, -1, 0);
        CHECK.is("4: three stops of five blocks", 3, park.close(0));
        CHECK.fails("4: twice", Check.UNSUPPORTED, park, () -> park.close(0));
        int twoStations = Parks.open(park, 0, 0, 0, "s1 b1 s1 b1");
        CHECK.fails("4: two stations", Check.UNSUPPORTED, park, () -> park.close(twoStations));
        int lateStation = Parks.open(park, 0, 0, 0, "b1 s1 b1 b1");
        CHECK.fails("4: a station at 1", Check.UNSUPPORTED, park, () -> park.close(lateStation));
        int noStation = Parks.open(park, 0, 0, 0, "b1 t1 b1 b1");
        CHECK.fails("4: no station", Check.UNSUPPORTED, park, () -> park.close(noStation));

        Coasterland other = new Coasterland();
        Parks.open(other, 0, 0, 0, Parks.ONLY_STOPS);
        CHECK.is("4: all are stops", 4, other.close(0));
        Parks.open(other, 0, 0, 0, "s1 t1 l1 t1");
        CHECK.is("4: the station alone", 1, other.close(1));
    }

    private static void addTrain() {
        Coasterland park = new Coasterland();
        CHECK.fails("5: no ride", Check.INDEX, park, () -> park.addTrain(0, 0));
        Parks.open(park, 0, 40, 0, Parks.ONLY_STOPS);
        CHECK.fails("5: 0 seats", Check.ARGUMENT, park, () -> park.addTrain(0, 0));
        CHECK.fails("5: 9 seats", Check.ARGUMENT, park, () -> park.addTrain(0, 9));
        CHECK.fails("5: not closed", Check.UNSUPPORTED, park, () -> park.addTrain(0, 1));
        park.close(0);
        Parks.staff(park, 0);
        CHECK.is("5: first", 0, park.addTrain(0, 1));
        CHECK.is("5: its block", 0, park.blockOf(0, 0));
        CHECK.is("5: its state", 's', park.stateOf(0, 0));
        CHECK.is("5: nobody aboard", 0, park.aboard(0, 0));
        CHECK.holds("5: it holds the station", park.isHeld(0, 0));
        CHECK.fails("5: one stands there", Check.UNSUPPORTED, park, () -> park.addTrain(0, 1));
        park.dispatch(0);
        CHECK.fails("5: one is dispatched there", Check.UNSUPPORTED, park, () -> park.addTrain(0, 1));
        park.tick(1);
        CHECK.is("5: second, 8 seats", 1, park.addTrain(0, 8));
        park.tick(4);
        park.dispatch(0);
        park.tick(1);
        CHECK.is("5: third", 2, park.addTrain(0, 2));
        park.setSensor(0, 2, 0, 'a');
        CHECK.fails("5: 9 seats in a full station", Check.ARGUMENT, park, () -> park.addTrain(0, 9));
        fourTrains();
        stationOnTheWay();
    }

    private static void fourTrains() {
        Coasterland park = Parks.working(0, "s1 b1 b1 b1 b1 b1", 1);
        for (int train = 1; train < 4; train++) {
            park.dispatch(0);
            park.tick(1);
            CHECK.is("5: train", train, park.addTrain(0, 1));
            park.tick(10);
        }
        CHECK.fails("5: four, one of them there", Check.UNSUPPORTED, park, () -> park.addTrain(0, 1));
        park.dispatch(0);
        park.tick(1);
        CHECK.holds("5: the station is free", !park.isHeld(0, 0));
        CHECK.fails("5: a fifth", Check.STATE, park, () -> park.addTrain(0, 1));
    }

    /** A train that runs to the station holds it all the way. */
    private static void stationOnTheWay() {
        Coasterland park = Parks.working(0, "s1 t1 t1 t1", 1);
        park.dispatch(0);
        park.tick(2);
        CHECK.is("5: it is on its way", 2, park.blockOf(0, 0));
        CHECK.fails("5: and holds the station", Check.UNSUPPORTED, park, () -> park.addTrain(0, 1));

        Coasterland faulty = new Coasterland();
        Parks.closed(faulty, 0, 40, 0, Parks.ONLY_STOPS);
        faulty.setSensor(0, 0, 0, 'n');
        CHECK.is("5: not tripped yet", false, faulty.hasTripped(0));
        faulty.addTrain(0, 1);
        CHECK.is("5: a train that one processor does not see", true, faulty.hasTripped(0));
    }

    private static void addStaff() {
        Coasterland park = new Coasterland();
        CHECK.fails("6: -1", Check.ARGUMENT, park, () -> park.addStaff(-1));
        CHECK.fails("6: 16", Check.ARGUMENT, park, () -> park.addStaff(16));
        for (int i = 0; i < 8; i++) {
            CHECK.is("6: member", i, park.addStaff(i % 2 == 0 ? 0 : 15));
        }
        CHECK.fails("6: the ninth", Check.STATE, park, () -> park.addStaff(0));
        CHECK.fails("6: the ninth, out of range", Check.ARGUMENT, park, () -> park.addStaff(16));
    }

    private static void assign() {
        Coasterland park = new Coasterland();
        park.addStaff(3);
        CHECK.fails("7: no ride", Check.INDEX, park, () -> park.assign(0, 0));
        park.addRide(0, 0, 0);
        park.addRide(0, 0, 0);
        park.addStaff(2);
        CHECK.fails("7: member -1", Check.INDEX, park, () -> park.assign(0, -1));
        CHECK.fails("7: member 2", Check.INDEX, park, () -> park.assign(0, 2));
        CHECK.fails("7: ride -1", Check.INDEX, park, () -> park.assign(-1, 0));
        CHECK.fails("7: not certified", Check.UNSUPPORTED, park, () -> park.assign(0, 1));
        CHECK.is("7: none before", -1, park.assign(0, 0));
        CHECK.is("7: the same again", 0, park.assign(0, 0));
        CHECK.fails("7: operates another ride", Check.UNSUPPORTED, park, () -> park.assign(1, 0));
        CHECK.is("7: another ride", -1, park.assign(1, 1));
        park.addStaff(3);
        CHECK.is("7: in place of another", 0, park.assign(0, 2));
        CHECK.is("7: who is free then", 1, park.assign(1, 0));
    }

    private static void inspect() {
        Coasterland park = new Coasterland();
        park.addStaff(1);
        CHECK.fails("8: no ride", Check.INDEX, park, () -> park.inspect(0, 0));
        Parks.closed(park, 0, 40, 0, Parks.ONLY_STOPS);
        CHECK.fails("8: no member", Check.INDEX, park, () -> park.inspect(0, 1));
        CHECK.fails("8: member -1", Check.INDEX, park, () -> park.inspect(0, -1));
        park.addStaff(14);
        CHECK.fails("8: not certified", Check.UNSUPPORTED, park, () -> park.inspect(0, 1));
        park.assign(0, 0);
        park.addTrain(0, 1);
        CHECK.is("8: not inspected", 'i', park.keeps(0));
        CHECK.is("8: the first time", 0, park.inspect(0, 0));
        CHECK.is("8: inspected", '.', park.keeps(0));
        for (int i = 0; i < 50; i++) {
            CHECK.is("8: run " + i, '.', park.keeps(0));
            park.dispatch(0);
            park.tick(7);
        }
        CHECK.is("8: it is back", 's', park.stateOf(0, 0));
        CHECK.is("8: behind 50", 'i', park.keeps(0));
        CHECK.fails("8: no 51st", Check.UNSUPPORTED, park, () -> park.dispatch(0));
        CHECK.is("8: since then", 50, park.inspect(0, 0));
        CHECK.is("8: since then, again", 0, park.inspect(0, 0));
        CHECK.is("8: goes on", '.', park.keeps(0));
        CHECK.is("8: all of them", 50, park.cycles(0));
    }

    private static void lockAndUnlock() {
        Coasterland park = new Coasterland();
        park.addStaff(0);
        CHECK.fails("9: no ride", Check.INDEX, park, () -> park.lock(0, 0));
        CHECK.fails("10: no ride", Check.INDEX, park, () -> park.unlock(0, 0));
        park.addRide(0, 0, 0);
        park.addRide(0, 0, 0);
        CHECK.fails("9: no member", Check.INDEX, park, () -> park.lock(0, 1));
        CHECK.fails("10: no member", Check.INDEX, park, () -> park.unlock(0, 1));
        CHECK.fails("9: member -1", Check.INDEX, park, () -> park.lock(0, -1));
        CHECK.fails("10: member 32", Check.INDEX, park, () -> park.unlock(0, 32));
        CHECK.fails("10: no lock", Check.UNSUPPORTED, park, () -> park.unlock(0, 0));
        for (int i = 1; i < 8; i++) {
            park.addStaff(15);
        }
        CHECK.is("9: without a certificate", 1, park.lock(0, 0));
        CHECK.fails("9: twice", Check.UNSUPPORTED, park, () -> park.lock(0, 0));
        CHECK.is("9: on another ride too", 1, park.lock(1, 0));
        for (int i = 1; i < 8; i++) {
            CHECK.is("9: lock", i + 1, park.lock(0, i));
        }
        CHECK.is("10: off", 7, park.unlock(0, 3));
        CHECK.fails("10: off twice", Check.UNSUPPORTED, park, () -> park.unlock(0, 3));
        CHECK.is("9: on again", 8, park.lock(0, 3));
        CHECK.is("10: the other ride's", 0, park.unlock(1, 0));
        CHECK.is("10: this one's stays", 7, park.unlock(0, 0));
    }
}
