/**
 * Every call that is refused: each reason that the document names for itself, and which exception comes first where
 * several apply. What is refused changes nothing.
 */
public final class RefusalsTest {
    private static final Check CHECK = new Check();

    private RefusalsTest() {
    }

    public static void main(String[] args) {
        addRide();
        addBlock();
        close();
        addTrain();
        addStaff();
        staffCalls();
        locks();
        setSensor();
        reset();
        weather();
        dispatch();
        push();
        guestsWhoCannot();
        queue();
        queueWithReturn();
        questions();
        CHECK.end();
    }

    private static void addRide() {
        Coasterland park = new Coasterland();
        CHECK.fails("2: all numbers out of range", Check.ARGUMENT, park, () -> park.addRide(-1, 41, 100));
        for (int ride = 0; ride < 4; ride++) {
            park.addRide(0, 0, 0);
        }
        CHECK.fails("2: full", Check.STATE, park, () -> park.addRide(0, 0, 0));
        CHECK.fails("2: full, height 251", Check.ARGUMENT, park, () -> park.addRide(251, 0, 0));
        CHECK.fails("2: full, wind -1", Check.ARGUMENT, park, () -> park.addRide(0, -1, 0));
        CHECK.fails("2: full, price 100", Check.ARGUMENT, park, () -> park.addRide(0, 0, 100));
    }

    private static void addBlock() {
        Coasterland park = new Coasterland();
        Parks.open(park, 0, 0, 0, "s1 b1 b1 b1 b1 b1 b1 b1 b1 b1 b1 b1");
        CHECK.fails("3: no ride, wrong", Check.INDEX, park, () -> park.addBlock(1, 'x', 0, 10, 10));
        CHECK.fails("3: full", Check.STATE, park, () -> park.addBlock(0, 't', 1, 0, 0));
        CHECK.fails("3: full, kind x", Check.ARGUMENT, park, () -> park.addBlock(0, 'x', 1, 0, 0));
        CHECK.fails("3: full, length 0", Check.ARGUMENT, park, () -> park.addBlock(0, 't', 0, 0, 0));
        CHECK.fails("3: full, rise 10", Check.ARGUMENT, park, () -> park.addBlock(0, 't', 1, 10, 0));
        CHECK.fails("3: full, bend 10", Check.ARGUMENT, park, () -> park.addBlock(0, 't', 1, 0, 10));
        CHECK.fails("3: full, a brake that rises", Check.ARGUMENT, park, () -> park.addBlock(0, 'b', 1, 1, 0));
        park.close(0);
        CHECK.fails("3: closed, full", Check.UNSUPPORTED, park, () -> park.addBlock(0, 't', 1, 0, 0));
        CHECK.fails("3: closed, full, length 21", Check.ARGUMENT, park, () -> park.addBlock(0, 't', 21, 0, 0));
        int small = Parks.closed(park, 0, 0, 0, Parks.ONLY_STOPS);
        CHECK.fails("3: closed", Check.UNSUPPORTED, park, () -> park.addBlock(small, 't', 1, 0, 0));
        CHECK.fails("3: closed, a station that falls", Check.ARGUMENT, park,
                () -> park.addBlock(small, 's', 1, -1, 0));
    }

    private static void cannotClose(String why, String blocks) {
        Coasterland park = new Coasterland();
        Parks.open(park, 0, 0, 0, blocks);
        CHECK.fails("4: " + why, Check.UNSUPPORTED, park, () -> park.close(0));
    }

    private static void close() {
        cannotClose("1 block", "s1");
        cannotClose("3 blocks", "s1 b1 b1");
        cannotClose("no station", "b1 b1 b1 b1");
        cannotClose("the station at 1", "b1 s1 b1 b1");
        cannotClose("the station last", "t1 t1 t1 s1");
        cannotClose("a second station", "s1 b1 b1 s1");
        cannotClose("stations alone", "s1 s1 s1 s1");
        cannotClose("1 too high", "s1 t1,5,0 l1,-4,0 b1");
        cannotClose("1 too low", "s1 t1,4,0 l1,-5,0 b1");
        cannotClose("high to the last block", "s1 b1 b1 t1,1,0");
        Coasterland park = new Coasterland();
        CHECK.is("4: 4 blocks", 0, Parks.closed(park, 0, 0, 0, "s1 t1,9,0 l1,-9,0 t1"));
        CHECK.fails("4: twice", Check.UNSUPPORTED, park, () -> park.close(0));
        CHECK.fails("4: no ride", Check.INDEX, park, () -> park.close(1));
        Parks.open(park, 0, 0, 0, "s1 t1,9,0 t1,9,0 t1,9,0 t1,9,0 t1,9,0 l1,-9,0 l1,-9,0 l1,-9,0 l1,-9,0 l1,-9,0 b1");
        CHECK.is("4: 12 blocks", 2, park.close(1));
        Parks.open(park, 0, 0, 0, "s20 b20 b20 b20 b20 b20 b20 b20 b20 b20 b20 b20");
        CHECK.is("4: 12 stops", 12, park.close(2));
    }

    private static void addTrain() {
        Coasterland park = new Coasterland();
        Parks.open(park, 0, 40, 0, "s1 b1 b1 b1 b1 b1");
        CHECK.fails("5: no ride, no seats", Check.INDEX, park, () -> park.addTrain(1, 0));
        CHECK.fails("5: open", Check.UNSUPPORTED, park, () -> park.addTrain(0, 1));
        CHECK.fails("5: open, 9 seats", Check.ARGUMENT, park, () -> park.addTrain(0, 9));
        park.close(0);
        Parks.staff(park, 0);
        park.addTrain(0, 1);
        CHECK.fails("5: the station is held", Check.UNSUPPORTED, park, () -> park.addTrain(0, 1));
        CHECK.fails("5: it is held, no seats", Check.ARGUMENT, park, () -> park.addTrain(0, 0));
        for (int train = 1; train < 4; train++) {
            park.dispatch(0);
            park.tick(1);
            park.addTrain(0, 1);
            park.tick(2);
        }
        CHECK.fails("5: four, it is held", Check.UNSUPPORTED, park, () -> park.addTrain(0, 1));
        CHECK.fails("5: four, it is held, 9 seats", Check.ARGUMENT, park, () -> park.addTrain(0, 9));
        park.dispatch(0);
        CHECK.fails("5: four, one leaves", Check.UNSUPPORTED, park, () -> park.addTrain(0, 1));
        park.tick(1);
        CHECK.fails("5: four", Check.STATE, park, () -> park.addTrain(0, 1));
        CHECK.fails("5: four, no seats", Check.ARGUMENT, park, () -> park.addTrain(0, 0));
        heldByAStalledTrain();
    }

    private static void heldByAStalledTrain() {
        Coasterland park = Parks.working(0, Parks.WEAK, 1);
        park.dispatch(0);
        park.tick(1);
        CHECK.fails("5: held by a train that has left it", Check.UNSUPPORTED, park, () -> park.addTrain(0, 1));
        park.setWind(16);
        park.tick(1);
        CHECK.fails("5: held by one that has stalled", Check.UNSUPPORTED, park, () -> park.addTrain(0, 1));
        park.push(0, 0);
        CHECK.is("5: given back", 1, park.addTrain(0, 1));
    }

    private static void addStaff() {
        Coasterland park = new Coasterland();
        for (int member = 0; member < 8; member++) {
            park.addStaff(0);
        }
        CHECK.fails("6: full", Check.STATE, park, () -> park.addStaff(15));
        CHECK.fails("6: full, -1", Check.ARGUMENT, park, () -> park.addStaff(-1));
        CHECK.fails("6: full, 16", Check.ARGUMENT, park, () -> park.addStaff(16));
    }

    /** Each sum of certificates with each ride. */
    private static void staffCalls() {
        for (int sum = 0; sum < 16; sum++) {
            for (int ride = 0; ride < 4; ride++) {
                Coasterland park = new Coasterland();
                for (int i = 0; i < 4; i++) {
                    park.addRide(0, 0, 0);
                }
                park.addStaff(sum);
                certified(park, ride, sum / (1 << ride) % 2 == 1);
            }
        }
        Coasterland park = new Coasterland();
        park.addRide(0, 0, 0);
        park.addRide(0, 0, 0);
        park.addStaff(1);
        park.addStaff(3);
        CHECK.fails("7: no ride, not certified", Check.INDEX, park, () -> park.assign(2, 0));
        CHECK.fails("7: no ride, no member", Check.INDEX, park, () -> park.assign(2, 2));
        CHECK.fails("8: no ride, not certified", Check.INDEX, park, () -> park.inspect(2, 0));
        CHECK.fails("8: no ride, no member", Check.INDEX, park, () -> park.inspect(2, 2));
        park.assign(1, 1);
        CHECK.fails("7: operates another ride", Check.UNSUPPORTED, park, () -> park.assign(0, 1));
        CHECK.is("8: but may inspect it", 0, park.inspect(0, 1));
        park.addStaff(2);
        CHECK.is("7: another one takes the place", 1, park.assign(1, 2));
        CHECK.is("7: operates none any more", -1, park.assign(0, 1));
    }

    private static void certified(Coasterland park, int ride, boolean certified) {
        if (certified) {
            CHECK.is("8: certified for " + ride, 0, park.inspect(ride, 0));
            CHECK.is("7: certified for " + ride, -1, park.assign(ride, 0));
        } else {
            CHECK.fails("8: not certified for " + ride, Check.UNSUPPORTED, park, () -> park.inspect(ride, 0));
            CHECK.fails("7: not certified for " + ride, Check.UNSUPPORTED, park, () -> park.assign(ride, 0));
        }
        CHECK.is("9: anyone", 1, park.lock(ride, 0));
        CHECK.is("10: anyone", 0, park.unlock(ride, 0));
    }

    private static void locks() {
        Coasterland park = Parks.working(0, Parks.ONLY_STOPS, 1);
        for (int member = 1; member < 8; member++) {
            park.addStaff(0);
        }
        for (int member = 0; member < 8; member++) {
            CHECK.is("9: locks", member + 1, park.lock(0, member));
            int twice = member;
            CHECK.fails("9: twice by " + member, Check.UNSUPPORTED, park, () -> park.lock(0, twice));
        }
        for (int member = 7; member >= 0; member--) {
            CHECK.is("24: one is enough", 'l', park.keeps(0));
            CHECK.is("10: locks", member, park.unlock(0, member));
            int twice = member;
            CHECK.fails("10: twice by " + member, Check.UNSUPPORTED, park, () -> park.unlock(0, twice));
        }
        CHECK.is("24: none is left", '.', park.keeps(0));
        park.lock(0, 5);
        CHECK.fails("10: of another member", Check.UNSUPPORTED, park, () -> park.unlock(0, 4));
        park.addRide(0, 0, 0);
        CHECK.fails("10: on another ride", Check.UNSUPPORTED, park, () -> park.unlock(1, 5));
        CHECK.fails("9: no ride, locked", Check.INDEX, park, () -> park.lock(2, 5));
        CHECK.fails("10: no ride, no lock", Check.INDEX, park, () -> park.unlock(2, 4));
        CHECK.fails("9: no such member", Check.INDEX, park, () -> park.lock(0, 8));
        CHECK.fails("10: no such member", Check.INDEX, park, () -> park.unlock(0, 8));
    }

    private static void setSensor() {
        Coasterland park = Parks.working(0, Parks.ONLY_STOPS, 1);
        CHECK.fails("11: no ride, no way", Check.INDEX, park, () -> park.setSensor(1, 0, 0, 'x'));
        CHECK.fails("11: no block, no way", Check.INDEX, park, () -> park.setSensor(0, 4, 0, 'x'));
        CHECK.fails("11: no processor, no way", Check.INDEX, park, () -> park.setSensor(0, 0, 2, 'x'));
        CHECK.fails("11: no way", Check.ARGUMENT, park, () -> park.setSensor(0, 0, 0, 'x'));
        CHECK.fails("11: nothing there is", Check.INDEX, park, () -> park.setSensor(1, 4, 2, 'x'));
    }

    private static void reset() {
        Coasterland park = Parks.working(0, Parks.WEAK, 1);
        CHECK.fails("12: no ride", Check.INDEX, park, () -> park.reset(1));
        CHECK.fails("12: not tripped", Check.UNSUPPORTED, park, () -> park.reset(0));
        park.dispatch(0);
        park.tick(1);
        park.setWind(16);
        park.tick(1);
        CHECK.fails("12: stalled, but not tripped", Check.UNSUPPORTED, park, () -> park.reset(0));
        park.setSensor(0, 1, 0, 'n');
        CHECK.fails("12: stalled, and seen otherwise", Check.UNSUPPORTED, park, () -> park.reset(0));
        park.setSensor(0, 1, 1, 'n');
        CHECK.fails("12: stalled", Check.UNSUPPORTED, park, () -> park.reset(0));
        park.setSensor(0, 3, 1, 'n');
        CHECK.is("16: pushed", 3, park.push(0, 0));
        CHECK.fails("12: seen otherwise", Check.UNSUPPORTED, park, () -> park.reset(0));
        park.setSensor(0, 3, 0, 'n');
        CHECK.is("12: neither sees it", 1, park.reset(0));
        CHECK.fails("12: not tripped any more", Check.UNSUPPORTED, park, () -> park.reset(0));
        resetWithRunningTrain();
    }

    private static void resetWithRunningTrain() {
        Coasterland park = Parks.working(0, Parks.TWO_RUNS, 1);
        park.dispatch(0);
        park.setSensor(0, 4, 0, 'a');
        park.tick(1);
        park.setSensor(0, 4, 0, 't');
        CHECK.is("12: while one runs", 1, park.reset(0));
        CHECK.is("12: it runs on", 'm', park.stateOf(0, 0));
    }

    private static void weather() {
        Coasterland park = Parks.working(0, Parks.ONLY_STOPS, 1);
        park.setWind(7);
        CHECK.fails("13: 41", Check.ARGUMENT, park, () -> park.setWind(41));
        CHECK.is("13: it was not set", 7, park.setWind(7));
        CHECK.fails("14: -1 is near, but refused", Check.ARGUMENT, park, () -> park.strike(-1));
        CHECK.is("14: it was not told", '.', park.keeps(0));
        CHECK.fails("17: 61", Check.ARGUMENT, park, () -> park.tick(61));
        CHECK.is("17: no tick went by", 0, park.ticks());
    }

    private static void kept(String why, char due, Coasterland park) {
        CHECK.tells("24: " + why, due, park, () -> park.keeps(0));
        CHECK.fails("15: " + why, Check.UNSUPPORTED, park, () -> park.dispatch(0));
    }

    /** A park where a guest waits for the train, so that a refused dispatch could take one aboard. */
    private static Coasterland awaited(String blocks) {
        Coasterland park = Parks.working(0, blocks, 1);
        Parks.enter(park, 1, 9, 0);
        park.queue(0, 0, 'l');
        return park;
    }

    private static void dispatch() {
        Coasterland park = new Coasterland();
        Parks.open(park, 0, 40, 0, Parks.ONLY_STOPS);
        Parks.staff(park, 0);
        kept("the ring is not closed", 'n', park);
        park.close(0);
        kept("no train is there", 'n', park);
        park.addTrain(0, 1);
        park.dispatch(0);
        kept("the train there runs", 'n', park);
        park.tick(1);
        kept("it has left", 'n', park);
        CHECK.fails("15: no ride", Check.INDEX, park, () -> park.dispatch(1));
        dispatchWithoutStaff();
        Coasterland windy = awaited(Parks.ONLY_STOPS);
        windy.strike(9);
        kept("lightning", 'w', windy);
        Coasterland tripped = awaited(Parks.ONLY_STOPS);
        tripped.setSensor(0, 2, 1, 'a');
        kept("it has tripped", 'e', tripped);
        Coasterland locked = awaited(Parks.ONLY_STOPS);
        locked.lock(0, 0);
        kept("a lock", 'l', locked);
        kept("a bad run", 'f', awaited("s1 t13,0,0 b1 b1"));
        heldAndSeen();
    }

    private static void dispatchWithoutStaff() {
        Coasterland park = new Coasterland();
        Parks.closed(park, 0, 20, 0, Parks.ONLY_STOPS);
        park.addTrain(0, 1);
        park.addStaff(1);
        park.inspect(0, 0);
        kept("no operator", 'o', park);
        Coasterland other = new Coasterland();
        Parks.closed(other, 0, 20, 0, Parks.ONLY_STOPS);
        other.addTrain(0, 1);
        other.addStaff(1);
        other.assign(0, 0);
        kept("no inspection", 'i', other);
        other.inspect(0, 0);
        other.setWind(21);
        kept("the wind", 'w', other);
    }

    private static void heldAndSeen() {
        Coasterland seenBy0 = awaited(Parks.ONLY_STOPS);
        seenBy0.setSensor(0, 1, 0, 'a');
        seenBy0.setSensor(0, 1, 1, 'a');
        seenBy0.reset(0);
        kept("something is seen", 'r', seenBy0);

        Coasterland unseen = awaited(Parks.ONLY_STOPS);
        unseen.dispatch(0);
        unseen.tick(1);
        unseen.addTrain(0, 1);
        unseen.setSensor(0, 1, 0, 'n');
        unseen.setSensor(0, 1, 1, 'n');
        unseen.reset(0);
        kept("a train there that none sees", 'r', unseen);

        Coasterland oneStop = awaited("s1 t1 t1 t1");
        oneStop.setSensor(0, 3, 0, 'a');
        oneStop.setSensor(0, 3, 1, 'a');
        oneStop.reset(0);
        kept("something is seen in the last block", 'r', oneStop);
    }

    private static void push() {
        Coasterland park = Parks.working(0, Parks.WEAK, 1);
        CHECK.fails("16: it stands", Check.UNSUPPORTED, park, () -> park.push(0, 0));
        CHECK.fails("16: no ride", Check.INDEX, park, () -> park.push(1, 0));
        CHECK.fails("16: no train", Check.INDEX, park, () -> park.push(0, 1));
        park.dispatch(0);
        CHECK.fails("16: it is dispatched", Check.UNSUPPORTED, park, () -> park.push(0, 0));
        park.tick(1);
        CHECK.fails("16: it runs", Check.UNSUPPORTED, park, () -> park.push(0, 0));
        park.setWind(16);
        park.tick(1);
        CHECK.fails("16: another one than that which has stalled", Check.INDEX, park, () -> park.push(0, 1));
        CHECK.is("16: it has stalled", 3, park.push(0, 0));
        CHECK.fails("16: it stands in a brake", Check.UNSUPPORTED, park, () -> park.push(0, 0));
    }

    private static void cannot(String why, Coasterland park, int guest, String calls) {
        Check.Call[] all = {() -> park.leave(guest), () -> park.queue(guest, 0, 's'), () -> park.quit(guest),
            () -> park.takeReturn(guest, 0), () -> park.eat(guest)};
        for (int i = 0; i < all.length; i++) {
            if (calls.indexOf("19 20 21 22 23".split(" ")[i]) >= 0) {
                CHECK.fails(19 + i + ": " + why, Check.UNSUPPORTED, park, all[i]);
            }
        }
    }

    private static void guestsWhoCannot() {
        Coasterland park = Parks.working(1, Parks.ONLY_STOPS, 1);
        Parks.enter(park, 4, 20, 0);
        cannot("on the paths", park, 0, "21");
        park.queue(0, 0, 'l');
        park.queue(1, 0, 's');
        cannot("in the long queue", park, 0, "19 20 23");
        cannot("in the queue of singles", park, 1, "19 20 23");
        park.takeReturn(2, 0);
        park.tick(6);
        park.queue(2, 0, 'r');
        cannot("in the queue of returns", park, 2, "19 20 23");
        park.dispatch(0);
        cannot("aboard", park, 2, "19 20 21 23");
        CHECK.is("22: aboard", 12, park.takeReturn(2, 0));
        park.leave(3);
        cannot("out", park, 3, "19 20 21 22 23");
        CHECK.fails("22: no ride, out", Check.INDEX, park, () -> park.takeReturn(3, 1));
        CHECK.fails("20: no ride, out, no queue", Check.INDEX, park, () -> park.queue(3, 1, 'x'));
        CHECK.fails("20: out, no queue", Check.ARGUMENT, park, () -> park.queue(3, 0, 'x'));
        CHECK.fails("20: no guest, no queue", Check.INDEX, park, () -> park.queue(4, 0, 'x'));
    }

    private static Object queueWith(int money, int height, int meals, int price, int least) {
        Coasterland park = new Coasterland();
        park.addRide(least, 0, price);
        park.enter(money + 5 * meals, height, 0);
        for (int i = 0; i < meals; i++) {
            park.eat(0);
        }
        String before = Inside.of(park);
        Object got = Check.answer(() -> park.queue(0, 0, 'l'));
        if (got instanceof Class) {
            CHECK.is("20: refused, all behind it", before, Inside.of(park));
        }
        return got;
    }

    private static void queue() {
        CHECK.is("20: the price and the height", 1, queueWith(99, 250, 0, 99, 250));
        CHECK.is("20: one coin less", Check.UNSUPPORTED, queueWith(98, 250, 0, 99, 250));
        CHECK.is("20: one less in height", Check.UNSUPPORTED, queueWith(99, 249, 0, 99, 250));
        CHECK.is("20: no money for no price", 1, queueWith(0, 50, 0, 0, 0));
        CHECK.is("20: the least height of guests", 1, queueWith(0, 50, 0, 0, 50));
        CHECK.is("20: one less than 51", Check.UNSUPPORTED, queueWith(0, 50, 0, 0, 51));
        CHECK.is("20: a nausea of 48", 1, queueWith(0, 50, 16, 0, 0));
        CHECK.is("20: a nausea of 51", Check.UNSUPPORTED, queueWith(0, 50, 17, 0, 0));
        for (char queue : "lsr".toCharArray()) {
            nauseaInQueue(queue);
        }
    }

    private static void nauseaInQueue(char queue) {
        Coasterland park = new Coasterland();
        park.addRide(0, 0, 0);
        park.enter(999, 100, 0);
        park.takeReturn(0, 0);
        for (int i = 0; i < 17; i++) {
            park.eat(0);
        }
        park.tick(10);
        CHECK.is("35: a nausea of 50", 50, park.get(0, 'n'));
        CHECK.fails("20: a nausea of 50, queue " + queue, Check.UNSUPPORTED, park, () -> park.queue(0, 0, queue));
        park.tick(10);
        CHECK.is("35: a nausea of 49", 49, park.get(0, 'n'));
        CHECK.is("20: a nausea of 49, queue " + queue, 1, park.queue(0, 0, queue));
    }

    private static void queueWithReturn() {
        Coasterland park = new Coasterland();
        park.addRide(0, 0, 4);
        park.addRide(0, 0, 4);
        Parks.enter(park, 2, 20, 0);
        CHECK.fails("20: no return", Check.UNSUPPORTED, park, () -> park.queue(0, 0, 'r'));
        CHECK.is("22: the tick", 5, park.takeReturn(0, 0));
        CHECK.fails("20: at the tick 0", Check.UNSUPPORTED, park, () -> park.queue(0, 0, 'r'));
        park.tick(4);
        CHECK.fails("20: one tick too early", Check.UNSUPPORTED, park, () -> park.queue(0, 0, 'r'));
        park.tick(1);
        CHECK.fails("20: for another ride", Check.UNSUPPORTED, park, () -> park.queue(0, 1, 'r'));
        CHECK.fails("20: of another guest", Check.UNSUPPORTED, park, () -> park.queue(1, 0, 'r'));
        CHECK.is("20: at its tick", 1, park.queue(0, 0, 'r'));
        CHECK.is("20: the price is paid with it", 16, park.get(0, 'm'));
        park.quit(0);
        CHECK.fails("21: it is gone", Check.UNSUPPORTED, park, () -> park.queue(0, 0, 'r'));
        refusedReturnStays();
    }

    private static void refusedReturnStays() {
        Coasterland park = new Coasterland();
        park.addRide(0, 0, 4);
        park.enter(4, 100, 0);
        park.takeReturn(0, 0);
        park.tick(5);
        park.queue(0, 0, 'l');
        CHECK.fails("20: in a queue, with a return", Check.UNSUPPORTED, park, () -> park.queue(0, 0, 'r'));
        park.quit(0);
        CHECK.fails("20: no queue, with a return", Check.ARGUMENT, park, () -> park.queue(0, 0, 'R'));
        CHECK.is("20: what was refused did not use it", 1, park.queue(0, 0, 'r'));
    }

    private static void questions() {
        Coasterland park = new Coasterland();
        Parks.open(park, 0, 40, 0, "s1 b1 b1");
        Parks.enter(park, 1, 1, 0);
        CHECK.fails("25: no ride", Check.INDEX, park, () -> park.force(1, 0));
        CHECK.fails("25: no block, open", Check.INDEX, park, () -> park.force(0, 3));
        CHECK.fails("25: open", Check.UNSUPPORTED, park, () -> park.force(0, 2));
        CHECK.fails("27: no block, no processor", Check.INDEX, park, () -> park.sees(0, 3, 2));
        CHECK.fails("33: no ride, no queue", Check.INDEX, park, () -> park.waiting(1, 'x'));
        CHECK.fails("33: no queue", Check.ARGUMENT, park, () -> park.waiting(0, 'x'));
        CHECK.fails("35: no guest, no number", Check.INDEX, park, () -> park.get(1, 'x'));
        CHECK.fails("35: no number", Check.ARGUMENT, park, () -> park.get(0, 'x'));
        park.leave(0);
        CHECK.tells("35: of one who is out", 1, park, () -> park.get(0, 'm'));
        CHECK.tells("34: of one who is out", 'o', park, () -> park.whereIs(0));
    }
}
