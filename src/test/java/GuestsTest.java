/** Promises 15, 18 to 23 and 32 to 36: guests, queues, returns, seats and feelings. */
public final class GuestsTest {
    private static final Check CHECK = new Check();

    private GuestsTest() {
    }

    public static void main(String[] args) {
        enter();
        leave();
        queue();
        whoMayQueue();
        quit();
        takeReturn();
        returnsAreUsedOnce();
        eat();
        aboard();
        boardingOrder();
        groupsFitOrWait();
        largeGroups();
        groupsTogether();
        feelings();
        feelingsAtMost();
        waiting();
        whereIsAndGet();
        hungriest();
        CHECK.end();
    }

    private static void enter() {
        Coasterland park = new Coasterland();
        CHECK.fails("18: money -1", Check.ARGUMENT, park, () -> park.enter(-1, 100, 0));
        CHECK.fails("18: money 1000", Check.ARGUMENT, park, () -> park.enter(1000, 100, 0));
        CHECK.fails("18: height 49", Check.ARGUMENT, park, () -> park.enter(0, 49, 0));
        CHECK.fails("18: height 251", Check.ARGUMENT, park, () -> park.enter(0, 251, 0));
        CHECK.fails("18: group -1", Check.ARGUMENT, park, () -> park.enter(0, 100, -1));
        CHECK.fails("18: group 10", Check.ARGUMENT, park, () -> park.enter(0, 100, 10));
        CHECK.is("18: least", 0, park.enter(0, 50, 0));
        CHECK.is("18: greatest", 1, park.enter(999, 250, 9));
        CHECK.is("18: on the paths", 'p', park.whereIs(1));
        CHECK.is("18: money", 999, park.get(1, 'm'));
        CHECK.is("18: hunger", 0, park.get(1, 'h'));
        CHECK.is("18: nausea", 0, park.get(1, 'n'));
        CHECK.is("18: rides", 0, park.get(1, 'r'));
        park.leave(0);
        for (int i = 2; i < 60; i++) {
            CHECK.is("18: guest", i, park.enter(1, 100, 0));
        }
        CHECK.fails("18: the 61st, though one is out", Check.STATE, park, () -> park.enter(1, 100, 0));
        CHECK.fails("18: the 61st, out of range", Check.ARGUMENT, park, () -> park.enter(1, 1, 0));
        CHECK.is("39: all who entered", 60, park.guests());
    }

    private static void leave() {
        Coasterland park = Parks.working(3, Parks.ONLY_STOPS, 1);
        CHECK.fails("19: no guest", Check.INDEX, park, () -> park.leave(0));
        Parks.enter(park, 3, 20, 0);
        CHECK.fails("19: guest -1", Check.INDEX, park, () -> park.leave(-1));
        CHECK.fails("19: guest 3", Check.INDEX, park, () -> park.leave(3));
        Parks.queueAll(park, 0, 1, 0, 'l');
        CHECK.fails("19: in a queue", Check.UNSUPPORTED, park, () -> park.leave(1));
        park.dispatch(0);
        CHECK.fails("19: aboard", Check.UNSUPPORTED, park, () -> park.leave(0));
        CHECK.is("19: the money", 20, park.leave(2));
        CHECK.is("19: out", 'o', park.whereIs(2));
        CHECK.fails("19: out already", Check.UNSUPPORTED, park, () -> park.leave(2));
        CHECK.is("41: what is in the park", 40L, park.allMoney());
        park.tick(7);
        CHECK.is("19: behind a ride", 17, park.leave(0));
        CHECK.is("41: what was paid stays", 23L, park.allMoney());
        CHECK.holds("44: isSound()", park.isSound());
    }

    private static void queue() {
        Coasterland park = new Coasterland();
        CHECK.fails("20: no guest", Check.INDEX, park, () -> park.queue(0, 0, 'l'));
        Parks.enter(park, 4, 10, 0);
        CHECK.fails("20: no ride", Check.INDEX, park, () -> park.queue(0, 0, 'x'));
        park.addRide(0, 0, 4);
        park.addRide(0, 0, 0);
        CHECK.fails("20: guest 4", Check.INDEX, park, () -> park.queue(4, 0, 'l'));
        CHECK.fails("20: guest -1", Check.INDEX, park, () -> park.queue(-1, 0, 'l'));
        CHECK.fails("20: ride 2", Check.INDEX, park, () -> park.queue(0, 2, 'l'));
        CHECK.fails("20: queue x", Check.ARGUMENT, park, () -> park.queue(0, 0, 'x'));
        CHECK.fails("20: queue L", Check.ARGUMENT, park, () -> park.queue(0, 0, 'L'));
        CHECK.is("20: first in the long one", 1, park.queue(0, 0, 'l'));
        CHECK.is("20: second", 2, park.queue(1, 0, 'l'));
        CHECK.is("20: first of the singles", 1, park.queue(2, 0, 's'));
        CHECK.is("20: first of another ride", 1, park.queue(3, 1, 'l'));
        CHECK.is("20: paid then", 6, park.get(1, 'm'));
        CHECK.is("20: taken then", 12L, park.till());
        CHECK.is("20: in a queue", 'q', park.whereIs(1));
        CHECK.fails("20: in one already", Check.UNSUPPORTED, park, () -> park.queue(0, 1, 's'));
        CHECK.fails("20: in one already, no queue", Check.ARGUMENT, park, () -> park.queue(0, 1, 'q'));
        park.enter(9, 100, 0);
        CHECK.fails("20: no return", Check.UNSUPPORTED, park, () -> park.queue(4, 0, 'r'));
    }

    private static void whoMayQueue() {
        Coasterland park = new Coasterland();
        park.addRide(120, 0, 8);
        park.enter(8, 120, 0);
        park.enter(7, 120, 0);
        park.enter(8, 119, 0);
        park.enter(999, 250, 0);
        CHECK.fails("20: one coin too few", Check.UNSUPPORTED, park, () -> park.queue(1, 0, 'l'));
        CHECK.fails("20: too small", Check.UNSUPPORTED, park, () -> park.queue(2, 0, 's'));
        CHECK.is("20: just tall and rich enough", 1, park.queue(0, 0, 'l'));
        CHECK.is("20: nothing is left", 0, park.get(0, 'm'));
        for (int i = 0; i < 17; i++) {
            park.eat(3);
        }
        CHECK.is("20: nausea", 51, park.get(3, 'n'));
        park.tick(10);
        CHECK.fails("20: a nausea of 50", Check.UNSUPPORTED, park, () -> park.queue(3, 0, 'l'));
        park.tick(10);
        CHECK.is("20: a nausea of 49", 2, park.queue(3, 0, 'l'));
        park.leave(1);
        CHECK.fails("20: out", Check.UNSUPPORTED, park, () -> park.queue(1, 0, 'l'));
    }

    private static void quit() {
        Coasterland park = Parks.working(4, Parks.ONLY_STOPS, 1);
        CHECK.fails("21: no guest", Check.INDEX, park, () -> park.quit(0));
        Parks.enter(park, 4, 10, 0);
        CHECK.fails("21: guest -1", Check.INDEX, park, () -> park.quit(-1));
        CHECK.fails("21: on the paths", Check.UNSUPPORTED, park, () -> park.quit(0));
        Parks.queueAll(park, 0, 3, 0, 'l');
        CHECK.is("21: the price", 4, park.quit(1));
        CHECK.is("21: the money", 10, park.get(1, 'm'));
        CHECK.is("21: on the paths", 'p', park.whereIs(1));
        CHECK.is("21: three are left", 3, park.waiting(0, 'l'));
        CHECK.is("40: what was taken less what was given back", 12L, park.till());
        CHECK.fails("21: twice", Check.UNSUPPORTED, park, () -> park.quit(1));
        CHECK.is("21: behind the others then", 4, park.queue(1, 0, 'l'));
        park.dispatch(0);
        CHECK.fails("21: aboard", Check.UNSUPPORTED, park, () -> park.quit(0));
        park.tick(7);
        park.dispatch(0);
        CHECK.is("21: the order of those who stayed", 't', park.whereIs(2));
        CHECK.is("21: the last one waits", 'q', park.whereIs(1));
        CHECK.fails("21: behind a ride", Check.UNSUPPORTED, park, () -> park.quit(0));
        park.leave(0);
        CHECK.fails("21: out", Check.UNSUPPORTED, park, () -> park.quit(0));
    }

    private static void takeReturn() {
        Coasterland park = Parks.working(1, Parks.ONLY_STOPS, 1);
        CHECK.fails("22: no guest", Check.INDEX, park, () -> park.takeReturn(0, 0));
        Parks.enter(park, 5, 10, 0);
        CHECK.fails("22: no ride", Check.INDEX, park, () -> park.takeReturn(0, 1));
        CHECK.fails("22: ride -1", Check.INDEX, park, () -> park.takeReturn(0, -1));
        CHECK.fails("22: guest 5", Check.INDEX, park, () -> park.takeReturn(5, 0));
        CHECK.is("22: at 0, none waits", 5, park.takeReturn(0, 0));
        park.queue(1, 0, 'l');
        park.queue(2, 0, 's');
        CHECK.is("22: only the long queue counts", 6, park.takeReturn(3, 0));
        CHECK.is("22: one in the queue", 6, park.takeReturn(1, 0));
        park.dispatch(0);
        CHECK.is("22: one aboard", 5, park.takeReturn(1, 0));
        park.tick(4);
        CHECK.fails("22: too early", Check.UNSUPPORTED, park, () -> park.queue(0, 0, 'r'));
        park.tick(1);
        CHECK.is("22: from then on", 1, park.queue(0, 0, 'r'));
        CHECK.fails("22: 3 has one tick to go", Check.UNSUPPORTED, park, () -> park.queue(3, 0, 'r'));
        park.leave(4);
        CHECK.fails("22: out", Check.UNSUPPORTED, park, () -> park.takeReturn(4, 0));
        CHECK.is("22: a new one", 10, park.takeReturn(3, 0));
        park.tick(1);
        CHECK.fails("22: in place of the old one", Check.UNSUPPORTED, park, () -> park.queue(3, 0, 'r'));
        park.tick(30);
        CHECK.is("22: much later", 2, park.queue(3, 0, 'r'));
    }

    private static void returnsAreUsedOnce() {
        Coasterland park = Parks.working(1, Parks.ONLY_STOPS, 1);
        Parks.closed(park, 0, 40, 2, Parks.ONLY_STOPS);
        Parks.enter(park, 1, 50, 0);
        park.takeReturn(0, 0);
        park.tick(5);
        CHECK.fails("20: a return for another ride", Check.UNSUPPORTED, park, () -> park.queue(0, 1, 'r'));
        park.queue(0, 0, 'l');
        park.quit(0);
        CHECK.is("20: another queue does not use it", 1, park.queue(0, 0, 'r'));
        CHECK.is("21: the price is paid with a return too", 1, park.quit(0));
        CHECK.fails("21: the return is gone", Check.UNSUPPORTED, park, () -> park.queue(0, 0, 'r'));
        park.takeReturn(0, 0);
        park.tick(5);
        park.queue(0, 0, 'r');
        CHECK.is("22: a new one while the old one is used", 15, park.takeReturn(0, 0));
        park.quit(0);
        park.tick(5);
        CHECK.is("21: only the one that was used is gone", 1, park.queue(0, 0, 'r'));
        park.dispatch(0);
        park.tick(7);
        CHECK.fails("20: used up by a ride", Check.UNSUPPORTED, park, () -> park.queue(0, 0, 'r'));
        park.takeReturn(0, 0);
        park.takeReturn(0, 1);
        park.tick(5);
        CHECK.fails("22: one at most", Check.UNSUPPORTED, park, () -> park.queue(0, 0, 'r'));
        CHECK.is("22: the last one", 1, park.queue(0, 1, 'r'));
    }

    private static void eat() {
        Coasterland park = Parks.working(0, Parks.ONLY_STOPS, 1);
        CHECK.fails("23: no guest", Check.INDEX, park, () -> park.eat(0));
        Parks.enter(park, 1, 14, 0);
        CHECK.fails("23: guest -1", Check.INDEX, park, () -> park.eat(-1));
        for (int i = 0; i < 7; i++) {
            park.queue(0, 0, 'l');
            CHECK.fails("23: in a queue", Check.UNSUPPORTED, park, () -> park.eat(0));
            park.dispatch(0);
            CHECK.fails("23: aboard", Check.UNSUPPORTED, park, () -> park.eat(0));
            park.tick(7);
        }
        CHECK.is("35: hunger", 7, park.get(0, 'h'));
        CHECK.is("23: less by 5", 2, park.eat(0));
        CHECK.is("23: it costs 5", 9, park.get(0, 'm'));
        CHECK.is("23: nausea", 3, park.get(0, 'n'));
        CHECK.is("40: it is taken", 5L, park.till());
        CHECK.is("23: not below 0", 0, park.eat(0));
        CHECK.is("23: nausea again", 6, park.get(0, 'n'));
        CHECK.fails("23: with 4", Check.UNSUPPORTED, park, () -> park.eat(0));
        park.enter(5, 100, 0);
        CHECK.is("23: with 5", 0, park.eat(1));
        park.enter(5, 100, 0);
        park.leave(2);
        CHECK.fails("23: out", Check.UNSUPPORTED, park, () -> park.eat(2));
    }

    private static void aboard() {
        Coasterland park = Parks.working(0, Parks.TWO_RUNS, 3);
        CHECK.fails("32: no ride", Check.INDEX, park, () -> park.aboard(1, 0));
        CHECK.fails("32: no train", Check.INDEX, park, () -> park.aboard(0, 1));
        CHECK.fails("32: train -1", Check.INDEX, park, () -> park.aboard(0, -1));
        CHECK.is("32: none", 0, park.aboard(0, 0));
        Parks.enter(park, 5, 10, 0);
        Parks.queueAll(park, 0, 4, 0, 'l');
        CHECK.is("32: they wait", 0, park.aboard(0, 0));
        CHECK.is("15: all seats", 3, park.dispatch(0));
        CHECK.is("32: all seats", 3, park.aboard(0, 0));
        CHECK.is("33: the rest", 2, park.waiting(0, 'l'));
        park.tick(4);
        CHECK.is("32: a brake is no station", 3, park.aboard(0, 0));
        park.tick(2);
        CHECK.is("32: in the last block", 3, park.aboard(0, 0));
        CHECK.is("34: aboard still", 't', park.whereIs(0));
        park.tick(1);
        CHECK.is("32: in the station", 0, park.aboard(0, 0));
        CHECK.is("34: on the paths", 'p', park.whereIs(0));
        CHECK.is("15: the rest", 2, park.dispatch(0));
        CHECK.is("34: the fourth", 't', park.whereIs(3));
    }

    private static String places(Coasterland park) {
        StringBuilder text = new StringBuilder();
        for (int guest = 0; guest < park.guests(); guest++) {
            text.append(park.whereIs(guest));
        }
        return text.toString();
    }

    private static void boardingOrder() {
        Coasterland park = Parks.working(1, Parks.ONLY_STOPS, 4);
        Parks.enter(park, 7, 20, 0);
        park.takeReturn(5, 0);
        park.takeReturn(6, 0);
        park.tick(5);
        Parks.queueAll(park, 0, 1, 0, 's');
        Parks.queueAll(park, 2, 4, 0, 'l');
        Parks.queueAll(park, 5, 6, 0, 'r');
        CHECK.is("15: four of seven", 4, park.dispatch(0));
        CHECK.is("15: returns, then the long queue", "qqttqtt", places(park));
        park.tick(7);
        CHECK.is("15: the rest", 3, park.dispatch(0));
        CHECK.is("15: the long queue, then singles", "ttpptpp", places(park));
        park.tick(7);
        Parks.queueAll(park, 0, 6, 0, 's');
        CHECK.is("15: singles fill the train", 4, park.dispatch(0));
        CHECK.is("15: in their order", "ttttqqq", places(park));

        Coasterland returns = Parks.working(1, Parks.ONLY_STOPS, 1);
        Parks.enter(returns, 2, 20, 1);
        returns.takeReturn(0, 0);
        returns.takeReturn(1, 0);
        returns.tick(5);
        returns.queue(1, 0, 'r');
        returns.queue(0, 0, 'r');
        CHECK.is("15: returns one by one, whatever their group", 1, returns.dispatch(0));
        CHECK.is("15: the first of them", "qt", places(returns));
    }

    private static void groupsFitOrWait() {
        Coasterland park = Parks.working(0, Parks.ONLY_STOPS, 4);
        Parks.enter(park, 2, 9, 0);
        Parks.enter(park, 3, 9, 1);
        Parks.enter(park, 2, 9, 0);
        Parks.queueAll(park, 0, 5, 0, 'l');
        park.queue(6, 0, 's');
        CHECK.is("15: two, and a single", 3, park.dispatch(0));
        CHECK.is("15: the group does not fit, none behind it comes", "ttqqqqt", places(park));
        park.tick(7);
        CHECK.is("15: the group, and one", 4, park.dispatch(0));
        CHECK.is("15: it fits then", "ppttttp", places(park));

        Coasterland exact = Parks.working(0, Parks.ONLY_STOPS, 4);
        Parks.enter(exact, 1, 9, 0);
        Parks.enter(exact, 3, 9, 7);
        Parks.queueAll(exact, 0, 3, 0, 'l');
        CHECK.is("15: just seats enough", 4, exact.dispatch(0));
    }

    private static void largeGroups() {
        Coasterland park = Parks.working(0, Parks.ONLY_STOPS, 3);
        Parks.enter(park, 1, 9, 0);
        Parks.enter(park, 4, 9, 2);
        Parks.enter(park, 1, 9, 0);
        Parks.queueAll(park, 0, 4, 0, 'l');
        park.queue(5, 0, 's');
        CHECK.is("15: a group larger than the train comes in part", 3, park.dispatch(0));
        CHECK.is("15: as many as seats are left", "tttqqq", places(park));
        park.tick(7);
        park.queue(0, 0, 'l');
        CHECK.is("15: the rest, one more, no seat for singles", 3, park.dispatch(0));
        CHECK.is("15: the rest of it", "tppttq", places(park));

        Coasterland asLarge = Parks.working(0, Parks.ONLY_STOPS, 3);
        Parks.enter(asLarge, 1, 9, 0);
        Parks.enter(asLarge, 3, 9, 2);
        Parks.queueAll(asLarge, 0, 3, 0, 'l');
        CHECK.is("15: a group as large as the train waits", 1, asLarge.dispatch(0));

        Coasterland full = Parks.working(0, Parks.ONLY_STOPS, 1);
        Parks.enter(full, 1, 9, 0);
        Parks.enter(full, 2, 9, 2);
        Parks.queueAll(full, 0, 2, 0, 'l');
        CHECK.is("15: no seat is left for it", 1, full.dispatch(0));
        CHECK.is("15: all of it waits", "tqq", places(full));
    }

    /** Those of a group come with its first one, past all others, but only those of the long queue of this ride. */
    private static void groupsTogether() {
        Coasterland park = Parks.working(0, Parks.ONLY_STOPS, 3);
        Parks.closed(park, 0, 40, 0, Parks.ONLY_STOPS);
        park.enter(9, 100, 5);
        Parks.enter(park, 2, 9, 0);
        park.enter(9, 100, 5);
        park.enter(9, 100, 5);
        park.enter(9, 100, 5);
        Parks.queueAll(park, 0, 3, 0, 'l');
        park.queue(4, 0, 's');
        park.queue(5, 1, 'l');
        CHECK.is("15: 0, with 3, then 1", 3, park.dispatch(0));
        CHECK.is("15: 2, 4 and 5 wait", "ttqtqq", places(park));
        CHECK.is("33: one in the long queue", 1, park.waiting(0, 'l'));

        Coasterland alone = Parks.working(0, Parks.ONLY_STOPS, 2);
        Parks.enter(alone, 3, 9, 0);
        Parks.queueAll(alone, 0, 2, 0, 'l');
        CHECK.is("15: the group 0 is none", 2, alone.dispatch(0));
    }

    private static void feelings() {
        Coasterland park = Parks.working(2, Parks.TWO_RUNS, 2);
        Parks.enter(park, 2, 50, 0);
        park.queue(0, 0, 'l');
        park.dispatch(0);
        park.tick(6);
        CHECK.is("35: not ahead of its end", 0, park.get(0, 'n'));
        park.tick(1);
        CHECK.is("15: the greatest force of both runs", 6, park.get(0, 'n'));
        CHECK.is("15: hunger", 1, park.get(0, 'h'));
        CHECK.is("15: rides", 1, park.get(0, 'r'));
        CHECK.is("15: another guest", 0, park.get(1, 'n') + park.get(1, 'h') + park.get(1, 'r'));
        asTheTrainHadThem();
        stopsHaveNoForce();
    }

    /** The wind rises while the train runs, so that its force is another than that of a run without wind. */
    private static void asTheTrainHadThem() {
        Coasterland park = Parks.working(0, "s1 t8,-2,0 t4,0,4 l1,2,0 b1", 1);
        Parks.enter(park, 2, 50, 0);
        Parks.queueAll(park, 0, 1, 0, 'l');
        CHECK.is("25: without wind", 6, park.force(0, 2));
        park.dispatch(0);
        park.setWind(16);
        CHECK.is("25: with wind", 4, park.force(0, 2));
        park.tick(2);
        park.setWind(0);
        park.tick(5);
        CHECK.is("29: home", 0, park.blockOf(0, 0));
        CHECK.is("15: the force that it had, 3 * 4 / 4 + 1", 4, park.get(0, 'n'));
        park.dispatch(0);
        park.tick(7);
        CHECK.is("15: a greater one in the next ride", 6, park.get(1, 'n'));
        park.queue(0, 0, 'l');
        park.dispatch(0);
        park.setWind(16);
        park.tick(2);
        park.setWind(0);
        park.tick(5);
        CHECK.is("15: anew for each ride, behind the 10th tick", 3 + 4, park.get(0, 'n'));
    }

    private static void stopsHaveNoForce() {
        Coasterland park = Parks.working(0, Parks.ONLY_STOPS, 1);
        Parks.enter(park, 1, 9, 0);
        park.queue(0, 0, 'l');
        park.dispatch(0);
        park.tick(7);
        CHECK.is("15: a ride without track", 0, park.get(0, 'n'));
        CHECK.is("15: makes hungry too", 1, park.get(0, 'h'));
    }

    private static void feelingsAtMost() {
        Coasterland park = Parks.working(0, Parks.TWO_RUNS, 1);
        park.enter(999, 200, 0);
        for (int i = 0; i < 16; i++) {
            park.eat(0);
        }
        CHECK.is("23: 16 meals", 48, park.get(0, 'n'));
        park.queue(0, 0, 'l');
        park.dispatch(0);
        park.tick(7);
        CHECK.is("15: above 50 by a ride", 54, park.get(0, 'n'));
        for (int i = 0; i < 15; i++) {
            park.eat(0);
        }
        CHECK.is("23: 99", 99, park.get(0, 'n'));
        park.eat(0);
        CHECK.is("23: at most", 99, park.get(0, 'n'));
        hungerAtMost();
    }

    private static void hungerAtMost() {
        Coasterland park = Parks.working(0, Parks.ONLY_STOPS, 1);
        park.enter(0, 200, 0);
        for (int i = 0; i < 101; i++) {
            if (i % 50 == 0) {
                park.inspect(0, 0);
            }
            park.queue(0, 0, 's');
            park.dispatch(0);
            park.tick(7);
        }
        CHECK.is("15: hunger at most", 99, park.get(0, 'h'));
        CHECK.is("35: rides are counted on", 101, park.get(0, 'r'));
    }

    private static void waiting() {
        Coasterland park = new Coasterland();
        CHECK.fails("33: no ride", Check.INDEX, park, () -> park.waiting(0, 'x'));
        park.addRide(0, 0, 0);
        CHECK.fails("33: ride -1", Check.INDEX, park, () -> park.waiting(-1, 'l'));
        CHECK.fails("33: queue x", Check.ARGUMENT, park, () -> park.waiting(0, 'x'));
        CHECK.fails("33: queue R", Check.ARGUMENT, park, () -> park.waiting(0, 'R'));
        Parks.enter(park, 60, 9, 3);
        park.takeReturn(59, 0);
        park.takeReturn(58, 0);
        park.tick(5);
        Parks.queueAll(park, 0, 56, 0, 'l');
        Parks.queueAll(park, 57, 57, 0, 's');
        Parks.queueAll(park, 58, 59, 0, 'r');
        CHECK.is("33: the long one", 57, park.waiting(0, 'l'));
        CHECK.is("33: singles", 1, park.waiting(0, 's'));
        CHECK.is("33: returns", 2, park.waiting(0, 'r'));
        CHECK.holds("44: isSound()", park.isSound());
        for (int guest = 57; guest < 60; guest++) {
            park.quit(guest);
            park.queue(guest, 0, 'l');
        }
        CHECK.is("33: all of them", 60, park.waiting(0, 'l'));
        CHECK.is("22: behind all of them", 70, park.takeReturn(0, 0));
        park.quit(59);
        park.quit(0);
        CHECK.is("33: but two", 58, park.waiting(0, 'l'));
    }

    private static void whereIsAndGet() {
        Coasterland park = Parks.working(2, Parks.ONLY_STOPS, 1);
        CHECK.fails("34: no guest", Check.INDEX, park, () -> park.whereIs(0));
        CHECK.fails("35: no guest", Check.INDEX, park, () -> park.get(0, 'x'));
        Parks.enter(park, 1, 9, 0);
        CHECK.fails("34: guest -1", Check.INDEX, park, () -> park.whereIs(-1));
        CHECK.fails("35: guest 60", Check.INDEX, park, () -> park.get(60, 'm'));
        CHECK.fails("35: number x", Check.ARGUMENT, park, () -> park.get(0, 'x'));
        CHECK.fails("35: number M", Check.ARGUMENT, park, () -> park.get(0, 'M'));
        CHECK.is("34: on the paths", 'p', park.whereIs(0));
        park.queue(0, 0, 's');
        CHECK.is("34: in a queue", 'q', park.whereIs(0));
        park.dispatch(0);
        CHECK.is("34: aboard", 't', park.whereIs(0));
        park.tick(7);
        CHECK.is("34: on the paths again", 'p', park.whereIs(0));
        CHECK.is("35: a ride", 1, park.get(0, 'r'));
        park.leave(0);
        CHECK.is("34: out", 'o', park.whereIs(0));
        CHECK.is("35: the money is the guest's still", 7, park.get(0, 'm'));
    }

    private static void hungriest() {
        Coasterland park = Parks.working(0, Parks.ONLY_STOPS, 2);
        CHECK.fails("36: none", java.util.NoSuchElementException.class, park, park::hungriest);
        Parks.enter(park, 4, 50, 0);
        CHECK.is("36: the lowest number", 0, park.hungriest());
        park.eat(0);
        CHECK.is("36: the least nausea", 1, park.hungriest());
        park.queue(2, 0, 'l');
        park.queue(3, 0, 'l');
        park.dispatch(0);
        CHECK.is("36: not aboard", 1, park.hungriest());
        park.tick(7);
        CHECK.is("36: the most hunger", 2, park.hungriest());
        park.eat(2);
        CHECK.is("36: who has not eaten", 3, park.hungriest());
        park.queue(3, 0, 's');
        CHECK.is("36: not in a queue, least nausea", 1, park.hungriest());
        park.leave(1);
        CHECK.is("36: not out; equal in all, the lowest", 0, park.hungriest());
        park.leave(0);
        park.leave(2);
        CHECK.fails("36: none on the paths", java.util.NoSuchElementException.class, park, park::hungriest);
    }
}
