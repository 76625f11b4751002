/** The edges that the terms name for guests: seats, groups, queues, returns, hunger, nausea, and the books. */
public final class GuestEdgesTest {
    private static final Check CHECK = new Check();

    private GuestEdgesTest() {
    }

    public static void main(String[] args) {
        groupsOfEverySize();
        whatComesBehindAGroup();
        partsOfLargeGroups();
        seatsForReturnsAndSingles();
        everyGroup();
        quitFromEachPlace();
        returnsByTheTick();
        returnsCountTheQueue();
        oneReturnAtMost();
        hungerAndMeals();
        nauseaAtMost();
        hungerAtMost();
        greatestForceOfAll();
        guestsStayAboard();
        guestsLeaveOnce();
        tenthTicks();
        moneyToTheLastCoin();
        hungriestOfSeveral();
        sharesAndMeans();
        CHECK.end();
    }

    private static String places(Coasterland park) {
        StringBuilder text = new StringBuilder();
        for (int guest = 0; guest < park.guests(); guest++) {
            text.append(park.whereIs(guest));
        }
        return text.toString();
    }

    /** A park whose train has these seats, and guests of the groups that the digits tell, all in the long queue. */
    private static Coasterland inLine(int seats, String groups) {
        Coasterland park = Parks.working(0, Parks.ONLY_STOPS, seats);
        for (int guest = 0; guest < groups.length(); guest++) {
            park.enter(20, 100, groups.charAt(guest) - '0');
            park.queue(guest, 0, 'l');
        }
        return park;
    }

    private static void boards(int seats, String groups, String due) {
        Coasterland park = inLine(seats, groups);
        int coming = due.length() - due.replace("t", "").length();
        String what = "15: " + groups + " for " + seats + " seats";
        CHECK.is(what + ", how many", coming, park.dispatch(0));
        CHECK.is(what, due, places(park));
        CHECK.is(what + ", aboard", coming, park.aboard(0, 0));
        CHECK.is(what + ", who wait", groups.length() - coming, park.waiting(0, 'l'));
        CHECK.holds(what + ", sound", park.isSound());
    }

    /** "If there are seats for all of them"; "a group that is larger than all seats comes in part". */
    private static void groupsOfEverySize() {
        for (int seats = 1; seats <= 8; seats++) {
            for (int size = 1; size <= 10; size++) {
                int coming = Math.min(seats, size);
                boards(seats, "4".repeat(size), "t".repeat(coming) + "q".repeat(size - coming));
                if (size == seats) {
                    boards(seats, "0" + "4".repeat(size), "t" + "q".repeat(size));
                }
                if (size == seats - 1) {
                    boards(seats, "0" + "4".repeat(size) + "0", "t".repeat(seats) + "q");
                }
                if (size > seats) {
                    boards(seats, "0" + "4".repeat(size), "t".repeat(seats) + "q".repeat(size + 1 - seats));
                }
            }
        }
    }

    /** "When one does not fit, none of this queue comes any more." */
    private static void whatComesBehindAGroup() {
        boards(3, "001110", "ttqqqq");
        boards(3, "01100", "tttqq");
        boards(4, "011100", "ttttqq");
        boards(4, "0011100", "ttqqqqq");
        boards(4, "001122", "ttttqq");
        boards(4, "112220", "ttqqqq");
        boards(4, "1212120", "tqtqtqq");
        boards(5, "10203", "ttttt");
        boards(5, "102031", "ttttqt");
        boards(2, "1211", "tqtq");
        boards(1, "00", "tq");
        boards(8, "000000000", "ttttttttq");
    }

    /** "Comes in part, as many as seats are left", and nobody behind it. */
    private static void partsOfLargeGroups() {
        boards(3, "11110", "tttqq");
        boards(3, "011110", "tttqqq");
        boards(3, "0011110", "tttqqqq");
        boards(3, "00011110", "tttqqqqq");
        boards(2, "1012010", "tqtqqqq");
        boards(2, "22211", "ttqqq");
        Coasterland park = inLine(2, "22222");
        park.dispatch(0);
        park.tick(7);
        CHECK.is("15: the next part", 2, park.dispatch(0));
        park.tick(7);
        CHECK.is("15: the last one of the group", 1, park.dispatch(0));
        CHECK.is("15: who it is", "ppppt", places(park));
    }

    private static void seatsForReturnsAndSingles() {
        for (int seats = 1; seats <= 8; seats++) {
            Coasterland park = Parks.working(1, Parks.ONLY_STOPS, seats);
            Parks.enter(park, 9, 20, 3);
            for (int guest = 0; guest < 3; guest++) {
                park.takeReturn(guest, 0);
            }
            park.tick(5);
            Parks.queueAll(park, 6, 8, 0, 's');
            Parks.queueAll(park, 3, 5, 0, 'l');
            Parks.queueAll(park, 0, 2, 0, 'r');
            int returns = Math.min(3, seats);
            int left = seats - returns;
            int line = left >= 3 ? 3 : seats < 3 ? left : 0;
            int singles = Math.min(3, left - line);
            String due = "t".repeat(returns) + "q".repeat(3 - returns) + "t".repeat(line) + "q".repeat(3 - line)
                    + "t".repeat(singles) + "q".repeat(3 - singles);
            CHECK.is("15: for " + seats + " seats", returns + line + singles, park.dispatch(0));
            CHECK.is("15: returns, a group, singles, for " + seats + " seats", due, places(park));
        }
        nobodyTwice();
    }

    private static void nobodyTwice() {
        Coasterland park = Parks.working(1, Parks.ONLY_STOPS, 1);
        Parks.enter(park, 2, 20, 0);
        park.queue(0, 0, 's');
        park.queue(1, 0, 'l');
        CHECK.is("15: the one seat is for the long queue", 1, park.dispatch(0));
        CHECK.is("15: and the single waits", "qt", places(park));
    }

    /** "Group, 0 for none", 1 to 9. */
    private static void everyGroup() {
        boards(2, "000", "ttq");
        for (int group = 1; group <= 9; group++) {
            boards(2, "0" + group + group, "tqq");
            boards(2, "" + group + "0" + group, "tqt");
            boards(3, "" + group + (group % 9 + 1) + group, "ttt");
        }
    }

    private static void quitFromEachPlace() {
        for (int leaver = 0; leaver < 4; leaver++) {
            Coasterland park = inLine(3, "0000");
            park.quit(leaver);
            CHECK.is("21: three are left", 3, park.waiting(0, 'l'));
            CHECK.is("21: they come", 3, park.dispatch(0));
            CHECK.is("21: but not who quit", 'p', park.whereIs(leaver));
            CHECK.holds("44: isSound()", park.isSound());
        }
        Coasterland alone = inLine(1, "0");
        alone.quit(0);
        CHECK.is("21: the only one", 0, alone.waiting(0, 'l'));
        CHECK.is("21: nobody comes", 0, alone.dispatch(0));
        Coasterland group = inLine(3, "0222");
        group.quit(2);
        CHECK.is("21: the rest of a group fits", 3, group.dispatch(0));
    }

    /** "5 more than now". */
    private static void returnsByTheTick() {
        for (int now = 0; now < 4; now++) {
            Coasterland park = new Coasterland();
            park.addRide(0, 0, 1);
            Parks.enter(park, 1, 20, 0);
            if (now > 0) {
                park.tick(now);
            }
            CHECK.is("22: at " + now, now + 5, park.takeReturn(0, 0));
            park.tick(4);
            CHECK.fails("20: a tick too early", Check.UNSUPPORTED, park, () -> park.queue(0, 0, 'r'));
            park.tick(1);
            CHECK.is("20: from then on", 1, park.queue(0, 0, 'r'));
        }
    }

    /** "And 1 for each guest who is in its long queue", then. */
    private static void returnsCountTheQueue() {
        Coasterland park = new Coasterland();
        park.addRide(0, 0, 0);
        park.addRide(0, 0, 0);
        Parks.enter(park, 60, 20, 0);
        for (int guest = 0; guest < 59; guest++) {
            CHECK.is("22: guests ahead " + guest, 5 + guest, park.takeReturn(59, 0));
            park.queue(guest, 0, 'l');
        }
        CHECK.is("22: all the others ahead", 64, park.takeReturn(59, 0));
        CHECK.is("22: another ride", 5, park.takeReturn(58, 1));
        CHECK.is("22: back to the first one", 64, park.takeReturn(59, 0));
        Parks.queueAll(park, 59, 59, 1, 'l');
        for (int guest = 0; guest < 59; guest++) {
            park.quit(guest);
        }
        CHECK.is("22: the queue is empty, a guest in another one", 5, park.takeReturn(59, 0));
        Coasterland waits = inLine(1, "0");
        waits.takeReturn(0, 0);
        waits.quit(0);
        waits.tick(5);
        CHECK.fails("22: the guest counted too", Check.UNSUPPORTED, waits, () -> waits.queue(0, 0, 'r'));
        waits.tick(1);
        CHECK.is("22: with the guest, 6", 1, waits.queue(0, 0, 'r'));
    }

    /** "A guest has one at most, and a new one takes the place of an old one." */
    private static void oneReturnAtMost() {
        Coasterland park = new Coasterland();
        park.addRide(0, 0, 0);
        park.addRide(0, 0, 0);
        Parks.enter(park, 1, 20, 0);
        park.takeReturn(0, 0);
        park.takeReturn(0, 1);
        park.tick(5);
        CHECK.fails("22: the old one is gone", Check.UNSUPPORTED, park, () -> park.queue(0, 0, 'r'));
        park.takeReturn(0, 1);
        CHECK.fails("22: later than the old one", Check.UNSUPPORTED, park, () -> park.queue(0, 1, 'r'));
        park.tick(5);
        CHECK.is("22: the new one", 1, park.queue(0, 1, 'r'));
        park.quit(0);
        CHECK.fails("22: none is left", Check.UNSUPPORTED, park, () -> park.queue(0, 1, 'r'));
        CHECK.is("20: the other queues need none", 1, park.queue(0, 1, 's'));
    }

    /** A guest with this hunger, who has money for two meals. */
    private static Coasterland hungry(int hunger) {
        Coasterland park = Parks.working(0, Parks.ONLY_STOPS, 1);
        park.enter(14, 100, 0);
        for (int i = 0; i < hunger; i++) {
            if (i % 40 == 39) {
                park.inspect(0, 0);
            }
            park.queue(0, 0, 's');
            park.dispatch(0);
            park.tick(7);
        }
        return park;
    }

    /** "Makes hunger less by 5, but not below 0." */
    private static void hungerAndMeals() {
        for (int hunger = 0; hunger <= 11; hunger++) {
            Coasterland park = hungry(hunger);
            CHECK.is("35: hunger", hunger, park.get(0, 'h'));
            CHECK.is("23: with a hunger of " + hunger, hunger > 5 ? hunger - 5 : 0, park.eat(0));
            CHECK.is("23: again", hunger > 10 ? hunger - 10 : 0, park.eat(0));
            CHECK.is("23: 4 are left", 4, park.get(0, 'm'));
            CHECK.fails("23: too little money", Check.UNSUPPORTED, park, () -> park.eat(0));
        }
    }

    private static Coasterland fed(int meals) {
        Coasterland park = Parks.working(0, Parks.TWO_RUNS, 1);
        park.enter(999, 100, 0);
        for (int i = 0; i < meals; i++) {
            park.eat(0);
        }
        return park;
    }

    /** "Both are at most 99": 31 meals make 93, 32 make 96, 33 make 99. */
    private static void nauseaAtMost() {
        CHECK.is("23: 31 meals", 93, fed(31).get(0, 'n'));
        CHECK.is("23: 32 meals", 96, fed(32).get(0, 'n'));
        CHECK.is("23: 33 meals", 99, fed(33).get(0, 'n'));
        CHECK.is("23: 34 meals", 99, fed(34).get(0, 'n'));
        Coasterland park = fed(33);
        park.tick(10);
        CHECK.is("17: 98", 98, park.get(0, 'n'));
        park.eat(0);
        CHECK.is("23: from 98", 99, park.get(0, 'n'));
        rideFromNausea(0, 6);
        rideFromNausea(16, 54);
        CHECK.is("15: 45 and 53", 98, nauseaBehindAGreatForce(15, 0));
        CHECK.is("15: 46 and 53", 99, nauseaBehindAGreatForce(16, 20));
        CHECK.is("15: 47 and 53", 99, nauseaBehindAGreatForce(16, 10));
        CHECK.is("15: 48 and 53", 99, nauseaBehindAGreatForce(16, 0));
    }

    /** The run may begin in a strong wind, with a force of 3 at the end; but as the wind rests, that force is 53. */
    private static int nauseaBehindAGreatForce(int meals, int ticks) {
        Coasterland park = Parks.working(0,
                "s1 l1,9,0 l1,9,0 l1,5,0 t20,-3,0 t20,-5,0 t20,-5,0 t20,-5,0 t20,-5,0 l2,0,4", 1);
        park.enter(999, 100, 0);
        for (int i = 0; i < meals; i++) {
            park.eat(0);
        }
        if (ticks > 0) {
            park.tick(ticks);
        }
        park.queue(0, 0, 'l');
        park.setWind(16);
        park.dispatch(0);
        park.setWind(0);
        park.tick(14);
        return park.get(0, 'n');
    }

    private static void rideFromNausea(int meals, int due) {
        Coasterland park = fed(meals);
        park.queue(0, 0, 'l');
        park.dispatch(0);
        park.tick(7);
        CHECK.is("15: nausea behind a ride, of " + 3 * meals, due, park.get(0, 'n'));
    }

    /** "Hunger by 1; both are at most 99." */
    private static void hungerAtMost() {
        CHECK.is("15: 98 rides", 98, hungry(98).get(0, 'h'));
        CHECK.is("15: 99 rides", 99, hungry(99).get(0, 'h'));
        Coasterland park = hungry(100);
        CHECK.is("15: 100 rides", 99, park.get(0, 'h'));
        CHECK.is("35: all of them", 100, park.get(0, 'r'));
        CHECK.is("43: all of them", 100.0, park.meanRides());
    }

    private static int nauseaOn(String blocks) {
        Coasterland park = Parks.working(0, blocks, 1);
        park.enter(0, 100, 0);
        park.queue(0, 0, 'l');
        park.dispatch(0);
        for (int i = 0; i < 40 && park.whereIs(0) == 't'; i++) {
            park.tick(1);
        }
        return park.whereIs(0) == 'p' ? park.get(0, 'n') + (park.ticks() >= 10 ? 1 : 0) : -1;
    }

    /** "Greater by the greatest force of all blocks": in the first run, the last one, the first block or the last. */
    private static void greatestForceOfAll() {
        CHECK.is("15: in the first block", 6, nauseaOn("s1 l3,0,5 b1 l1"));
        CHECK.is("15: in the last block", 6, nauseaOn("s1 t1 b1 l3,0,5"));
        CHECK.is("15: in the middle", 6, nauseaOn("s1 t1 l2,0,5 t1 b1 t1"));
        CHECK.is("15: of several", 5, nauseaOn("s1 l3,0,3 t5,0,4 b1 l3,0,2"));
        CHECK.is("15: straight track", 1, nauseaOn("s1 t1 b1 b1"));
        CHECK.is("15: stops alone", 0, nauseaOn("s1 b1 b1 b1"));
        CHECK.is("15: all round at once", 6, nauseaOn("s1 l3,0,1 l5,0,5 t20"));
    }

    private static void guestsStayAboard() {
        Coasterland park = Parks.working(0, "s1 b1 t8 t4 b1", 1);
        park.enter(0, 100, 0);
        park.queue(0, 0, 'l');
        park.dispatch(0);
        park.tick(3);
        park.setWind(16);
        park.tick(1);
        CHECK.is("34: aboard a stalled train", 't', park.whereIs(0));
        park.push(0, 0);
        CHECK.is("34: aboard, pushed to a brake", 't', park.whereIs(0));
        CHECK.is("35: no ride yet", 0, park.get(0, 'r'));
        park.setWind(0);
        park.tick(2);
        CHECK.is("34: in the station", 'p', park.whereIs(0));
        CHECK.is("35: one ride", 1, park.get(0, 'r'));
        CHECK.is("32: none aboard", 0, park.aboard(0, 0));
    }

    /** Who rode once is not met again as the train comes back with fewer guests, or with none. */
    private static void guestsLeaveOnce() {
        Coasterland park = inLine(3, "0000");
        park.dispatch(0);
        park.tick(7);
        park.leave(1);
        park.queue(2, 0, 's');
        park.quit(2);
        CHECK.is("15: one is left", 1, park.dispatch(0));
        park.takeReturn(2, 0);
        park.tick(5);
        park.queue(2, 0, 'r');
        park.tick(2);
        CHECK.is("34: the one comes home", "poqp", places(park));
        CHECK.is("15: with a return", 1, park.dispatch(0));
        park.tick(7);
        park.dispatch(0);
        park.tick(7);
        int[] due = {1, 1, 2, 1};
        for (int guest = 0; guest < due.length; guest++) {
            CHECK.is("35: rides of " + guest, due[guest], park.get(guest, 'r'));
            CHECK.is("35: hunger of " + guest, due[guest], park.get(guest, 'h'));
        }
        CHECK.is("34: who is out stays out", "popp", places(park));
        CHECK.is("43: five rides of four guests", 1.25, park.meanRides());
    }

    /** "In each 10th tick each nausea greater than 0 of a guest on the paths is 1 less." */
    private static void tenthTicks() {
        Coasterland park = fed(1);
        int[] due = {3, 3, 3, 3, 3, 3, 3, 3, 3, 2, 2, 2, 2, 2, 2, 2, 2, 2, 2, 1};
        for (int i = 0; i < due.length; i++) {
            park.tick(1);
            CHECK.is("17: nausea behind the tick " + park.ticks(), due[i], park.get(0, 'n'));
        }
        park.tick(9);
        CHECK.is("17: behind the tick 29", 1, park.get(0, 'n'));
        park.tick(1);
        CHECK.is("17: behind the tick 30", 0, park.get(0, 'n'));
        park.tick(10);
        CHECK.is("17: behind the tick 40", 0, park.get(0, 'n'));
        Coasterland once = fed(3);
        once.tick(60);
        CHECK.is("17: 60 at once", 3, once.get(0, 'n'));
        CHECK.is("17: hunger is not less", 0, once.get(0, 'h'));
        notForAll();
    }

    private static void notForAll() {
        Coasterland park = Parks.working(0, "s1 l1 l1 l1 l1 l1 b1", 1);
        Parks.enter(park, 4, 99, 0);
        for (int guest = 0; guest < 4; guest++) {
            park.eat(guest);
        }
        park.queue(0, 0, 'l');
        park.queue(1, 0, 's');
        park.leave(2);
        park.dispatch(0);
        park.tick(10);
        CHECK.is("17: aboard", 3, park.get(0, 'n'));
        CHECK.is("17: in a queue", 3, park.get(1, 'n'));
        CHECK.is("17: out", 3, park.get(2, 'n'));
        CHECK.is("17: on the paths", 2, park.get(3, 'n'));
        Coasterland late = Parks.working(0, Parks.TWO_RUNS, 1);
        late.enter(0, 100, 0);
        late.queue(0, 0, 'l');
        late.tick(3);
        late.dispatch(0);
        late.tick(7);
        CHECK.is("17: behind all rides, one who leaves a train in that tick", 5, late.get(0, 'n'));
    }

    /** "No coin is lost." */
    private static void moneyToTheLastCoin() {
        Coasterland park = Parks.working(99, Parks.ONLY_STOPS, 8);
        park.enter(999, 100, 0);
        park.enter(99, 100, 0);
        park.enter(98, 100, 0);
        park.enter(0, 100, 0);
        CHECK.is("41: brought", 1196L, park.allMoney());
        Parks.queueAll(park, 0, 1, 0, 'l');
        CHECK.fails("20: one coin too few", Check.UNSUPPORTED, park, () -> park.queue(2, 0, 'l'));
        CHECK.is("35: none is left", 0, park.get(1, 'm'));
        CHECK.is("40: two prices", 198L, park.till());
        CHECK.is("41: the same", 1196L, park.allMoney());
        CHECK.is("21: the price", 99, park.quit(1));
        CHECK.is("40: one price", 99L, park.till());
        park.dispatch(0);
        CHECK.is("19: one who has none", 0, park.leave(3));
        CHECK.is("19: one who has some", 98, park.leave(2));
        CHECK.is("41: less that", 1098L, park.allMoney());
        park.tick(7);
        CHECK.is("19: behind the ride", 900, park.leave(0));
        CHECK.is("19: the last one", 99, park.leave(1));
        CHECK.is("41: what the park has taken", 99L, park.allMoney());
        CHECK.is("40: what the park has taken", 99L, park.till());
        CHECK.holds("44: isSound()", park.isSound());
    }

    /** "The most hunger on the paths, of several the one with the least nausea, then the lowest number." */
    private static void hungriestOfSeveral() {
        Coasterland park = Parks.working(0, Parks.ONLY_STOPS, 8);
        Parks.enter(park, 5, 99, 0);
        CHECK.tells("36: all the same", 0, park, park::hungriest);
        park.queue(4, 0, 'l');
        park.dispatch(0);
        park.tick(7);
        CHECK.tells("36: the last one has the most", 4, park, park::hungriest);
        park.eat(4);
        CHECK.is("36: the least nausea", 0, park.hungriest());
        park.eat(0);
        park.eat(1);
        CHECK.is("36: the lower one of two", 2, park.hungriest());
        park.eat(2);
        CHECK.is("36: the only one without", 3, park.hungriest());
        park.eat(3);
        CHECK.is("36: all the same again", 0, park.hungriest());
        park.leave(0);
        CHECK.is("36: not who is out", 1, park.hungriest());
        park.queue(1, 0, 's');
        CHECK.is("36: not who waits", 2, park.hungriest());
        Parks.queueAll(park, 2, 4, 0, 'l');
        CHECK.fails("36: none", java.util.NoSuchElementException.class, park, park::hungriest);
        park.dispatch(0);
        CHECK.fails("36: all aboard", java.util.NoSuchElementException.class, park, park::hungriest);
        hungerComesFirst();
    }

    /** More hunger counts ahead of less nausea and of a lower number. */
    private static void hungerComesFirst() {
        Coasterland park = Parks.working(0, Parks.TWO_RUNS, 8);
        Parks.enter(park, 2, 99, 0);
        park.queue(1, 0, 'l');
        park.dispatch(0);
        park.tick(7);
        CHECK.is("36: sick, but hungry", 1, park.hungriest());
    }

    private static void sharesAndMeans() {
        Coasterland park = new Coasterland();
        for (int ride = 0; ride < 3; ride++) {
            Parks.closed(park, 0, 40, 0, "s1 b1 b1 t1");
            Parks.staff(park, ride);
            CHECK.is("42: all of " + ride, ride == 0 ? ArithmeticException.class : (Object) 1.0f,
                    Check.answer(park::standingShare));
            park.addTrain(ride, 1);
        }
        park.dispatch(1);
        CHECK.is("42: two of three", 2.0f / 3.0f, park.standingShare());
        park.tick(1);
        CHECK.is("42: in a brake it stands", 1.0f, park.standingShare());
        CHECK.fails("43: no guest", ArithmeticException.class, park, park::meanRides);
        Parks.enter(park, 7, 0, 0);
        CHECK.tells("43: no ride", 0.0, park, park::meanRides);
        park.queue(6, 0, 'l');
        park.dispatch(0);
        park.tick(6);
        CHECK.is("43: one of seven", 1.0 / 7.0, park.meanRides());
    }
}
