/** Parks that several tests begin with. */
final class Parks {
    /**
     * Runs 0 to 3 and 3 to 0. In the first one the lift takes two ticks and the plain track has the force 6; in the
     * second one it has the force 2.
     */
    static final String TWO_RUNS = "s4 l6,3,0 t4,-2,4 b3 t4,-1,2";

    /** Four stops side by side: a train comes to the next block in one tick, and never has a force. */
    static final String ONLY_STOPS = "s1 b1 b1 b1";

    /** Leaves the block 1 with 1 and the block 2 with 0; with a strong wind with -1 either way. */
    static final String WEAK = "s1 t8,0,8 t4,0,5 b1";

    private Parks() {
    }

    /** Adds a ride and its blocks, each told as kind, length and, for track, rise and bend; does not close it. */
    static int open(Coasterland park, int height, int wind, int price, String blocks) {
        int ride = park.addRide(height, wind, price);
        for (String block : blocks.split(" ")) {
            String[] numbers = block.substring(1).split(",");
            park.addBlock(ride, block.charAt(0), Integer.parseInt(numbers[0]),
                    numbers.length > 1 ? Integer.parseInt(numbers[1]) : 0,
                    numbers.length > 2 ? Integer.parseInt(numbers[2]) : 0);
        }
        return ride;
    }

    static int closed(Coasterland park, int height, int wind, int price, String blocks) {
        int ride = open(park, height, wind, price, blocks);
        park.close(ride);
        return ride;
    }

    /** Adds a member of staff for the ride, who operates it and has inspected it. */
    static int staff(Coasterland park, int ride) {
        int member = park.addStaff(1 << ride);
        park.assign(ride, member);
        park.inspect(ride, member);
        return member;
    }

    /** A park with the ride 0, its operator 0 and the train 0 in the station, from which nothing keeps it. */
    static Coasterland working(int price, String blocks, int seats) {
        Coasterland park = new Coasterland();
        int ride = closed(park, 0, 40, price, blocks);
        staff(park, ride);
        park.addTrain(ride, seats);
        return park;
    }

    static void enter(Coasterland park, int guests, int money, int group) {
        for (int i = 0; i < guests; i++) {
            park.enter(money, 150, group);
        }
    }

    static void queueAll(Coasterland park, int from, int to, int ride, char queue) {
        for (int guest = from; guest <= to; guest++) {
            park.queue(guest, ride, queue);
        }
    }
}
