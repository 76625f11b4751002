import java.util.NoSuchElementException;
import java.util.function.Supplier;

/**
 * Every number of every promise: the least and the greatest that is allowed, all between them, and the next ones
 * beyond; every letter; and every kind of thing with all its places taken. What is refused changes nothing.
 */
public final class BoundsTest {
    private static final Check CHECK = new Check();
    private static final int[] FAR = {Integer.MIN_VALUE, Integer.MAX_VALUE};

    interface IntCall {
        Object run(Coasterland park, int number);
    }

    interface CharCall {
        Object run(Coasterland park, char letter);
    }

    private BoundsTest() {
    }

    public static void main(String[] args) {
        numbersOfRidesAndBlocks();
        numbersOfTrainsAndStaff();
        numbersOfSafety();
        numbersOfGuests();
        numbersOfQuestions();
        letters();
        allPlacesTaken();
        nothingThereYet();
        CHECK.end();
    }

    private static void range(String what, int least, int greatest, Class<? extends RuntimeException> due,
            Supplier<Coasterland> fresh, IntCall call) {
        for (int number = least; number <= greatest; number++) {
            Coasterland park = fresh.get();
            int allowed = number;
            Object got = Check.answer(() -> call.run(park, allowed));
            CHECK.holds(what + " " + number + " answered " + got, !(got instanceof Class));
        }
        refused(what, least - 1, due, fresh, call);
        refused(what, greatest + 1, due, fresh, call);
        for (int number : FAR) {
            refused(what, number, due, fresh, call);
        }
    }

    private static void refused(String what, int number, Class<? extends RuntimeException> due,
            Supplier<Coasterland> fresh, IntCall call) {
        Coasterland park = fresh.get();
        CHECK.fails(what + " " + number, due, park, () -> call.run(park, number));
    }

    private static void letters(String what, String allowed, Supplier<Coasterland> fresh, CharCall call) {
        for (int sign = 0; sign < 400; sign++) {
            letter(what, (char) sign, allowed.indexOf(sign) >= 0, fresh.get(), call);
        }
        for (char letter : allowed.toCharArray()) {
            letter(what, (char) (letter + 256), false, fresh.get(), call);
        }
        letter(what, Character.MAX_VALUE, false, fresh.get(), call);
    }

    private static void letter(String what, char letter, boolean allowed, Coasterland park, CharCall call) {
        if (allowed) {
            Object got = Check.answer(() -> call.run(park, letter));
            CHECK.holds(what + " " + letter + " answered " + got, !(got instanceof Class));
        } else {
            CHECK.fails(what + " number " + (int) letter, Check.ARGUMENT, park, () -> call.run(park, letter));
        }
    }

    private static Coasterland oneRide() {
        Coasterland park = new Coasterland();
        park.addRide(0, 40, 0);
        return park;
    }

    private static Coasterland fourRides() {
        Coasterland park = new Coasterland();
        for (int ride = 0; ride < 4; ride++) {
            park.addRide(0, 40, 0);
        }
        return park;
    }

    /** The ring has all of the 12 blocks. */
    private static Coasterland twelveBlocks() {
        return Parks.working(0, "s1 b1 b1 b1 b1 b1 b1 b1 b1 b1 b1 b1", 1);
    }

    private static Coasterland threeClosedRides() {
        Coasterland park = new Coasterland();
        for (int ride = 0; ride < 3; ride++) {
            Parks.closed(park, 0, 40, 0, Parks.ONLY_STOPS);
        }
        return park;
    }

    private static Coasterland threeWorkingRides() {
        Coasterland park = threeClosedRides();
        for (int ride = 0; ride < 3; ride++) {
            Parks.staff(park, ride);
            park.addTrain(ride, 1);
        }
        return park;
    }

    private static Coasterland threeTrippedRides() {
        Coasterland park = threeClosedRides();
        for (int ride = 0; ride < 3; ride++) {
            park.setSensor(ride, 0, 0, 'a');
            park.setSensor(ride, 0, 0, 't');
        }
        return park;
    }

    private static Coasterland threeStaff() {
        Coasterland park = fourRides();
        for (int member = 0; member < 3; member++) {
            park.addStaff(15);
        }
        return park;
    }

    private static Coasterland locked() {
        Coasterland park = threeStaff();
        for (int ride = 0; ride < 4; ride++) {
            for (int member = 0; member < 3; member++) {
                park.lock(ride, member);
            }
        }
        return park;
    }

    /** One train in the brake 1 and one in the station. */
    private static Coasterland twoTrains() {
        Coasterland park = Parks.working(0, Parks.ONLY_STOPS, 1);
        park.dispatch(0);
        park.tick(1);
        park.addTrain(0, 1);
        return park;
    }

    private static Coasterland stalledTrain() {
        Coasterland park = Parks.working(0, Parks.WEAK, 1);
        park.dispatch(0);
        park.tick(1);
        park.setWind(16);
        park.tick(1);
        return park;
    }

    private static Coasterland threeGuests() {
        Coasterland park = oneRide();
        Parks.enter(park, 3, 50, 0);
        return park;
    }

    private static Coasterland threeWaitingGuests() {
        Coasterland park = threeGuests();
        Parks.queueAll(park, 0, 2, 0, 'l');
        return park;
    }

    private static void numbersOfRidesAndBlocks() {
        range("2: height", 0, 250, Check.ARGUMENT, Coasterland::new, (park, n) -> park.addRide(n, 0, 0));
        range("2: wind", 0, 40, Check.ARGUMENT, Coasterland::new, (park, n) -> park.addRide(0, n, 0));
        range("2: price", 0, 99, Check.ARGUMENT, Coasterland::new, (park, n) -> park.addRide(0, 0, n));
        range("3: ride", 0, 3, Check.INDEX, BoundsTest::fourRides, (park, n) -> park.addBlock(n, 's', 1, 0, 0));
        for (char kind : "sblt".toCharArray()) {
            boolean stop = kind == 's' || kind == 'b';
            range("3: length of " + kind, 1, 20, Check.ARGUMENT, BoundsTest::oneRide,
                    (park, n) -> park.addBlock(0, kind, n, 0, 0));
            range("3: rise of " + kind, stop ? 0 : -9, stop ? 0 : 9, Check.ARGUMENT, BoundsTest::oneRide,
                    (park, n) -> park.addBlock(0, kind, 1, n, 0));
            range("3: bend of " + kind, 0, stop ? 0 : 9, Check.ARGUMENT, BoundsTest::oneRide,
                    (park, n) -> park.addBlock(0, kind, 1, 0, n));
        }
        range("4: ride", 0, 2, Check.INDEX, () -> {
            Coasterland park = new Coasterland();
            for (int ride = 0; ride < 3; ride++) {
                Parks.open(park, 0, 40, 0, Parks.ONLY_STOPS);
            }
            return park;
        }, (park, n) -> park.close(n));
    }

    private static void numbersOfTrainsAndStaff() {
        range("5: ride", 0, 2, Check.INDEX, BoundsTest::threeClosedRides, (park, n) -> park.addTrain(n, 1));
        range("5: seats", 1, 8, Check.ARGUMENT, BoundsTest::threeClosedRides, (park, n) -> park.addTrain(0, n));
        range("6: certificates", 0, 15, Check.ARGUMENT, Coasterland::new, (park, n) -> park.addStaff(n));
        range("7: ride", 0, 3, Check.INDEX, BoundsTest::threeStaff, (park, n) -> park.assign(n, 0));
        range("7: member", 0, 2, Check.INDEX, BoundsTest::threeStaff, (park, n) -> park.assign(0, n));
        range("8: ride", 0, 3, Check.INDEX, BoundsTest::threeStaff, (park, n) -> park.inspect(n, 0));
        range("8: member", 0, 2, Check.INDEX, BoundsTest::threeStaff, (park, n) -> park.inspect(0, n));
        range("9: ride", 0, 3, Check.INDEX, BoundsTest::threeStaff, (park, n) -> park.lock(n, 0));
        range("9: member", 0, 2, Check.INDEX, BoundsTest::threeStaff, (park, n) -> park.lock(0, n));
        range("10: ride", 0, 3, Check.INDEX, BoundsTest::locked, (park, n) -> park.unlock(n, 0));
        range("10: member", 0, 2, Check.INDEX, BoundsTest::locked, (park, n) -> park.unlock(0, n));
    }

    private static void numbersOfSafety() {
        range("11: ride", 0, 2, Check.INDEX, BoundsTest::threeClosedRides,
                (park, n) -> park.setSensor(n, 0, 0, 'a'));
        range("11: block of 4", 0, 3, Check.INDEX, BoundsTest::threeClosedRides,
                (park, n) -> park.setSensor(0, n, 0, 'a'));
        range("11: block of 12", 0, 11, Check.INDEX, BoundsTest::twelveBlocks,
                (park, n) -> park.setSensor(0, n, 1, 'n'));
        range("11: processor", 0, 1, Check.INDEX, BoundsTest::threeClosedRides,
                (park, n) -> park.setSensor(0, 0, n, 't'));
        range("12: ride", 0, 2, Check.INDEX, BoundsTest::threeTrippedRides, (park, n) -> park.reset(n));
        range("13: wind", 0, 40, Check.ARGUMENT, Coasterland::new, (park, n) -> park.setWind(n));
        range("14: distance", 0, 99, Check.ARGUMENT, Coasterland::new, (park, n) -> park.strike(n));
        range("15: ride", 0, 2, Check.INDEX, BoundsTest::threeWorkingRides, (park, n) -> park.dispatch(n));
        range("16: ride", 0, 0, Check.INDEX, BoundsTest::stalledTrain, (park, n) -> park.push(n, 0));
        range("16: train", 0, 0, Check.INDEX, BoundsTest::stalledTrain, (park, n) -> park.push(0, n));
        range("17: ticks", 1, 60, Check.ARGUMENT, BoundsTest::twoTrains, (park, n) -> park.tick(n));
    }

    private static void numbersOfGuests() {
        range("18: money", 0, 999, Check.ARGUMENT, Coasterland::new, (park, n) -> park.enter(n, 100, 0));
        range("18: height", 50, 250, Check.ARGUMENT, Coasterland::new, (park, n) -> park.enter(0, n, 0));
        range("18: group", 0, 9, Check.ARGUMENT, Coasterland::new, (park, n) -> park.enter(0, 100, n));
        range("19: guest", 0, 2, Check.INDEX, BoundsTest::threeGuests, (park, n) -> park.leave(n));
        range("20: guest", 0, 2, Check.INDEX, BoundsTest::threeGuests, (park, n) -> park.queue(n, 0, 'l'));
        range("20: ride", 0, 3, Check.INDEX, () -> {
            Coasterland park = fourRides();
            park.enter(0, 100, 0);
            return park;
        }, (park, n) -> park.queue(0, n, 's'));
        range("21: guest", 0, 2, Check.INDEX, BoundsTest::threeWaitingGuests, (park, n) -> park.quit(n));
        range("22: guest", 0, 2, Check.INDEX, BoundsTest::threeGuests, (park, n) -> park.takeReturn(n, 0));
        range("22: ride", 0, 0, Check.INDEX, BoundsTest::threeGuests, (park, n) -> park.takeReturn(0, n));
        range("23: guest", 0, 2, Check.INDEX, BoundsTest::threeGuests, (park, n) -> park.eat(n));
    }

    private static void numbersOfQuestions() {
        range("24: ride", 0, 3, Check.INDEX, BoundsTest::fourRides, (park, n) -> park.keeps(n));
        range("25: ride", 0, 2, Check.INDEX, BoundsTest::threeClosedRides, (park, n) -> park.force(n, 0));
        range("25: block", 0, 11, Check.INDEX, BoundsTest::twelveBlocks, (park, n) -> park.force(0, n));
        range("25: block of 4", 0, 3, Check.INDEX, BoundsTest::threeClosedRides, (park, n) -> park.force(0, n));
        range("26: ride", 0, 2, Check.INDEX, BoundsTest::threeClosedRides, (park, n) -> park.isHeld(n, 0));
        range("26: block", 0, 11, Check.INDEX, BoundsTest::twelveBlocks, (park, n) -> park.isHeld(0, n));
        range("26: block of 4", 0, 3, Check.INDEX, BoundsTest::threeClosedRides, (park, n) -> park.isHeld(0, n));
        range("27: ride", 0, 2, Check.INDEX, BoundsTest::threeClosedRides, (park, n) -> park.sees(n, 0, 0));
        range("27: block", 0, 11, Check.INDEX, BoundsTest::twelveBlocks, (park, n) -> park.sees(0, n, 0));
        range("27: block of 4", 0, 3, Check.INDEX, BoundsTest::threeClosedRides, (park, n) -> park.sees(0, n, 1));
        range("27: processor", 0, 1, Check.INDEX, BoundsTest::twelveBlocks, (park, n) -> park.sees(0, 0, n));
        range("28: ride", 0, 3, Check.INDEX, BoundsTest::fourRides, (park, n) -> park.hasTripped(n));
        range("29: ride", 0, 2, Check.INDEX, BoundsTest::threeWorkingRides, (park, n) -> park.blockOf(n, 0));
        range("29: train", 0, 1, Check.INDEX, BoundsTest::twoTrains, (park, n) -> park.blockOf(0, n));
        range("30: ride", 0, 2, Check.INDEX, BoundsTest::threeWorkingRides, (park, n) -> park.energy(n, 0));
        range("30: train", 0, 1, Check.INDEX, BoundsTest::twoTrains, (park, n) -> park.energy(0, n));
        range("31: ride", 0, 2, Check.INDEX, BoundsTest::threeWorkingRides, (park, n) -> park.stateOf(n, 0));
        range("31: train", 0, 1, Check.INDEX, BoundsTest::twoTrains, (park, n) -> park.stateOf(0, n));
        range("32: ride", 0, 2, Check.INDEX, BoundsTest::threeWorkingRides, (park, n) -> park.aboard(n, 0));
        range("32: train", 0, 1, Check.INDEX, BoundsTest::twoTrains, (park, n) -> park.aboard(0, n));
        range("33: ride", 0, 3, Check.INDEX, BoundsTest::fourRides, (park, n) -> park.waiting(n, 'l'));
        range("34: guest", 0, 2, Check.INDEX, BoundsTest::threeGuests, (park, n) -> park.whereIs(n));
        range("35: guest", 0, 2, Check.INDEX, BoundsTest::threeGuests, (park, n) -> park.get(n, 'm'));
        range("37: ride", 0, 3, Check.INDEX, BoundsTest::fourRides, (park, n) -> park.cycles(n));
    }

    private static void letters() {
        letters("3: kind", "sblt", BoundsTest::oneRide, (park, letter) -> park.addBlock(0, letter, 1, 0, 0));
        letters("11: way", "tan", BoundsTest::threeClosedRides, (park, letter) -> park.setSensor(0, 0, 0, letter));
        letters("20: queue", "lsr", () -> {
            Coasterland park = threeGuests();
            park.takeReturn(0, 0);
            park.tick(5);
            return park;
        }, (park, letter) -> park.queue(0, 0, letter));
        letters("33: queue", "lsr", BoundsTest::oneRide, (park, letter) -> park.waiting(0, letter));
        letters("35: number", "mhnr", BoundsTest::threeGuests, (park, letter) -> park.get(0, letter));
    }

    private static void allPlacesTaken() {
        Coasterland rides = new Coasterland();
        full("2: ride", 4, rides, () -> rides.addRide(250, 40, 99));
        Coasterland blocks = oneRide();
        full("3: block", 12, blocks, () -> blocks.addBlock(0, 's', 1, 0, 0));
        Coasterland staff = new Coasterland();
        full("6: member of staff", 8, staff, () -> staff.addStaff(15));
        Coasterland guests = new Coasterland();
        full("18: guest", 60, guests, () -> guests.enter(999, 250, 9));
        Coasterland trains = Parks.working(0, "s1 b1 b1 b1 b1 b1", 8);
        for (int train = 1; train < 4; train++) {
            trains.dispatch(0);
            trains.tick(1);
            CHECK.is("5: train", train, trains.addTrain(0, 8));
            trains.tick(9);
        }
        trains.dispatch(0);
        trains.tick(1);
        CHECK.fails("5: a train more", Check.STATE, trains, () -> trains.addTrain(0, 8));
        everyRideForItself();
        allGuestsInOneQueue();
    }

    private static void full(String what, int most, Coasterland park, Check.Call add) {
        for (int number = 0; number < most; number++) {
            CHECK.is(what, number, Check.answer(add));
        }
        CHECK.fails(what + " more", Check.STATE, park, add);
        CHECK.fails(what + " more, again", Check.STATE, park, add);
    }

    /** 4 rides with 12 blocks and 4 trains each, to the last one. */
    private static void everyRideForItself() {
        Coasterland park = new Coasterland();
        for (int ride = 0; ride < 4; ride++) {
            int added = Parks.closed(park, 0, 40, 0, "s1 b1 b1 b1 b1 b1 b1 b1 b1 b1 b1 b1");
            CHECK.is("2: ride", ride, added);
            Parks.staff(park, ride);
            for (int train = 0; train < 4; train++) {
                park.tick(2);
                CHECK.is("5: train of the ride " + ride, train, park.addTrain(ride, 1));
                park.dispatch(ride);
                park.tick(1);
            }
            CHECK.fails("5: a fifth on the ride " + ride, Check.STATE, park, () -> park.addTrain(added, 1));
            park.tick(60);
            CHECK.is("29: the first of them in the station", 0, park.blockOf(ride, 0));
            CHECK.is("29: the second one in the last block", 11, park.blockOf(ride, 1));
            CHECK.is("29: the last of them behind the others", 9, park.blockOf(ride, 3));
        }
        CHECK.is("42: 16 trains that stand", 1.0f, park.standingShare());
        CHECK.holds("44: isSound()", park.isSound());
    }

    private static void allGuestsInOneQueue() {
        for (char queue : "lsr".toCharArray()) {
            Coasterland park = Parks.working(1, Parks.ONLY_STOPS, 8);
            Parks.enter(park, 60, 9, 0);
            for (int guest = 0; guest < 60; guest++) {
                park.takeReturn(guest, 0);
            }
            park.tick(5);
            for (int guest = 0; guest < 60; guest++) {
                CHECK.is("20: how many are in the queue " + queue, guest + 1, park.queue(guest, 0, queue));
            }
            CHECK.is("33: all of them in " + queue, 60, park.waiting(0, queue));
            CHECK.fails("36: none on the paths", NoSuchElementException.class, park, park::hungriest);
            CHECK.is("15: 8 of them", 8, park.dispatch(0));
            CHECK.is("33: 52 are left in " + queue, 52, park.waiting(0, queue));
            CHECK.is("21: the last one quits", 1, park.quit(59));
            CHECK.is("33: 51 are left in " + queue, 51, park.waiting(0, queue));
            CHECK.is("34: the 8th is aboard", 't', park.whereIs(7));
            CHECK.is("34: the 9th waits", 'q', park.whereIs(8));
            CHECK.holds("44: isSound()", park.isSound());
        }
    }

    private static void nothingThereYet() {
        Coasterland park = new Coasterland();
        CHECK.fails("36: no guest", NoSuchElementException.class, park, park::hungriest);
        CHECK.fails("42: no train", ArithmeticException.class, park, park::standingShare);
        CHECK.fails("43: no guest", ArithmeticException.class, park, park::meanRides);
        CHECK.tells("44: isSound()", true, park, park::isSound);
        CHECK.tells("38: ticks()", 0, park, park::ticks);
        CHECK.tells("39: guests()", 0, park, park::guests);
        CHECK.tells("40: till()", 0L, park, park::till);
        CHECK.tells("41: allMoney()", 0L, park, park::allMoney);
        CHECK.is("17: a tick", 1, park.tick(1));
        CHECK.is("14: a lightning", true, park.strike(0));
        park.addRide(0, 0, 0);
        CHECK.fails("4: an empty ring", Check.UNSUPPORTED, park, () -> park.close(0));
        CHECK.fails("12: an empty ring", Check.UNSUPPORTED, park, () -> park.reset(0));
        CHECK.fails("15: an empty ring", Check.UNSUPPORTED, park, () -> park.dispatch(0));
        CHECK.fails("11: no block", Check.INDEX, park, () -> park.setSensor(0, 0, 0, 't'));
        CHECK.fails("25: no block", Check.INDEX, park, () -> park.force(0, 0));
        CHECK.fails("26: no block", Check.INDEX, park, () -> park.isHeld(0, 0));
        CHECK.fails("27: no block", Check.INDEX, park, () -> park.sees(0, 0, 0));
        CHECK.fails("29: no train", Check.INDEX, park, () -> park.blockOf(0, 0));
        CHECK.fails("30: no train", Check.INDEX, park, () -> park.energy(0, 0));
        CHECK.fails("31: no train", Check.INDEX, park, () -> park.stateOf(0, 0));
        CHECK.fails("32: no train", Check.INDEX, park, () -> park.aboard(0, 0));
        CHECK.tells("24: an empty ring", 'n', park, () -> park.keeps(0));
        CHECK.tells("28: an empty ring", false, park, () -> park.hasTripped(0));
        CHECK.tells("33: an empty queue", 0, park, () -> park.waiting(0, 'l'));
        CHECK.tells("37: no train", 0, park, () -> park.cycles(0));
        CHECK.is("17: with an empty ring", 61, park.tick(60));
        Coasterland working = Parks.working(9, Parks.ONLY_STOPS, 8);
        CHECK.is("15: empty queues", 0, working.dispatch(0));
        CHECK.is("32: an empty train", 0, working.aboard(0, 0));
    }
}
