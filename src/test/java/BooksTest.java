/** Promises 38 to 44: the books, shares, means and soundness. */
public final class BooksTest {
    private static final Check CHECK = new Check();

    private BooksTest() {
    }

    public static void main(String[] args) {
        counts();
        money();
        standingShare();
        meanRides();
        isSound();
        CHECK.end();
    }

    private static void counts() {
        Coasterland park = new Coasterland();
        CHECK.is("38: at first", 0, park.ticks());
        CHECK.is("39: at first", 0, park.guests());
        park.tick(7);
        Parks.enter(park, 3, 1, 0);
        park.leave(1);
        CHECK.is("38: seven", 7, park.ticks());
        CHECK.is("39: those who are out count", 3, park.guests());
    }

    private static void money() {
        Coasterland park = Parks.working(6, Parks.ONLY_STOPS, 1);
        Parks.enter(park, 3, 999, 0);
        CHECK.is("40: nothing yet", 0L, park.till());
        CHECK.is("41: brought", 2997L, park.allMoney());
        park.queue(0, 0, 'l');
        park.queue(1, 0, 's');
        park.eat(2);
        CHECK.is("40: two prices and a meal", 17L, park.till());
        CHECK.is("41: paid, but in the park", 2997L, park.allMoney());
        park.quit(1);
        CHECK.is("40: less a price", 11L, park.till());
        park.dispatch(0);
        CHECK.is("41: one aboard", 2997L, park.allMoney());
        CHECK.is("19: it goes out", 994, park.leave(2));
        CHECK.is("41: what is left", 2003L, park.allMoney());
        CHECK.is("40: the same", 11L, park.till());
    }

    private static void standingShare() {
        Coasterland park = new Coasterland();
        CHECK.fails("42: no ride", ArithmeticException.class, park, park::standingShare);
        Parks.closed(park, 0, 40, 0, Parks.ONLY_STOPS);
        CHECK.fails("42: no train", ArithmeticException.class, park, park::standingShare);
        Parks.staff(park, 0);
        park.addTrain(0, 1);
        CHECK.is("42: one stands", 1.0f, park.standingShare());
        park.dispatch(0);
        CHECK.is("42: it runs", 0.0f, park.standingShare());
        for (int ride = 1; ride < 3; ride++) {
            Parks.closed(park, 0, 40, 0, Parks.WEAK);
            Parks.staff(park, ride);
            park.addTrain(ride, 1);
        }
        CHECK.is("42: two of three", 2.0f / 3.0f, park.standingShare());
        park.dispatch(1);
        park.tick(1);
        park.setWind(16);
        park.tick(1);
        CHECK.is("31: one has stalled", 'x', park.stateOf(1, 0));
        CHECK.is("42: one of three", 1.0f / 3.0f, park.standingShare());
    }

    private static void meanRides() {
        Coasterland park = Parks.working(0, Parks.ONLY_STOPS, 2);
        CHECK.fails("43: no guest", ArithmeticException.class, park, park::meanRides);
        Parks.enter(park, 3, 0, 0);
        CHECK.is("43: no ride", 0.0, park.meanRides());
        park.queue(0, 0, 'l');
        park.queue(1, 0, 'l');
        park.dispatch(0);
        CHECK.is("43: not yet", 0.0, park.meanRides());
        park.tick(7);
        CHECK.is("43: two by three", 2.0 / 3.0, park.meanRides());
        park.leave(0);
        CHECK.is("43: who is out counts", 2.0 / 3.0, park.meanRides());
    }

    private static void isSound() {
        Coasterland park = Parks.working(3, Parks.TWO_RUNS, 2);
        CHECK.holds("44: at first", park.isSound());
        Parks.enter(park, 6, 20, 1);
        Parks.queueAll(park, 0, 3, 0, 'l');
        park.queue(4, 0, 's');
        CHECK.holds("44: in queues", park.isSound());
        park.dispatch(0);
        CHECK.holds("44: aboard", park.isSound());
        park.leave(5);
        CHECK.holds("44: out with money", park.isSound());
        for (int block = 0; block < 5; block++) {
            park.setSensor(0, block, 0, 'n');
            park.setSensor(0, block, 1, 'n');
        }
        for (int i = 0; i < 20; i++) {
            park.tick(1);
            CHECK.holds("44: without eyes", park.isSound());
        }
    }
}
