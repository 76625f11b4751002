import java.util.ArrayList;
import java.util.HashMap;
import java.util.List;
import java.util.Map;
import java.util.NoSuchElementException;
import java.util.Set;
import java.util.TreeSet;

/**
 * A second park, written from the document alone and in another way than the class (sets and lists, every answer
 * counted anew), so that a slip in one of the two shows as a difference. Its methods bear the names of the face.
 */
final class Model {
    private static final class Track {
        char kind;
        int length;
        int rise;
        int bend;
        final char[] told = {'t', 't'};

        boolean stop() {
            return kind == 's' || kind == 'b';
        }
    }

    private static final class Car {
        int seats;
        int at;
        int energy;
        char state = 's';
        int ticksHere;
        int worst;
        Set<Integer> held = new TreeSet<>(Set.of(0));
        final List<Integer> riders = new ArrayList<>();
    }

    private static final class Attraction {
        int height;
        int wind;
        int price;
        boolean closed;
        boolean tripped;
        int operator = -1;
        int sinceInspection;
        boolean inspected;
        int cycles;
        final List<Track> ring = new ArrayList<>();
        final List<Car> cars = new ArrayList<>();
        final Set<Integer> locks = new TreeSet<>();
        final Map<Character, List<Integer>> queues = new HashMap<>();
    }

    private static final class Visitor {
        int money;
        int height;
        int group;
        int hunger;
        int nausea;
        int rides;
        char where = 'p';
        int queuesAt = -1;
        int returnRide = -1;
        int returnFrom;
    }

    private final List<Attraction> attractions = new ArrayList<>();
    private final List<Integer> certificates = new ArrayList<>();
    private final List<Visitor> visitors = new ArrayList<>();
    private int wind;
    private int now;
    private int lastStrike = -1000;
    private long till;

    public int addRide(int height, int limit, int price) {
        argument(in(height, 0, 250) && in(limit, 0, 40) && in(price, 0, 99));
        state(attractions.size() < 4);
        Attraction added = new Attraction();
        added.height = height;
        added.wind = limit;
        added.price = price;
        for (char queue : "lsr".toCharArray()) {
            added.queues.put(queue, new ArrayList<>());
        }
        attractions.add(added);
        return attractions.size() - 1;
    }

    public int addBlock(int ride, char kind, int length, int rise, int bend) {
        Attraction at = ride(ride);
        argument("sblt".indexOf(kind) >= 0 && in(length, 1, 20) && in(rise, -9, 9) && in(bend, 0, 9));
        argument("lt".indexOf(kind) >= 0 || rise == 0 && bend == 0);
        supported(!at.closed);
        state(at.ring.size() < 12);
        Track added = new Track();
        added.kind = kind;
        added.length = length;
        added.rise = rise;
        added.bend = bend;
        at.ring.add(added);
        return at.ring.size() - 1;
    }

    public int close(int ride) {
        Attraction at = ride(ride);
        supported(!at.closed && at.ring.size() >= 4 && at.ring.get(0).kind == 's');
        supported(at.ring.stream().filter(track -> track.kind == 's').count() == 1);
        supported(at.ring.stream().mapToInt(track -> track.rise).sum() == 0);
        at.closed = true;
        return (int) at.ring.stream().filter(Track::stop).count();
    }

    public int addTrain(int ride, int seats) {
        Attraction at = ride(ride);
        argument(in(seats, 1, 8));
        supported(at.closed && !isHeld(ride, 0));
        state(at.cars.size() < 4);
        Car added = new Car();
        added.seats = seats;
        at.cars.add(added);
        compare(ride);
        return at.cars.size() - 1;
    }

    public int addStaff(int sum) {
        argument(in(sum, 0, 15));
        state(certificates.size() < 8);
        certificates.add(sum);
        return certificates.size() - 1;
    }

    public int assign(int ride, int member) {
        Attraction at = ride(ride);
        certified(ride, member);
        for (Attraction other : attractions) {
            supported(other == at || other.operator != member);
        }
        int before = at.operator;
        at.operator = member;
        return before;
    }

    public int inspect(int ride, int member) {
        Attraction at = ride(ride);
        certified(ride, member);
        int before = at.sinceInspection;
        at.sinceInspection = 0;
        at.inspected = true;
        return before;
    }

    public int lock(int ride, int member) {
        Attraction at = ride(ride);
        index(in(member, 0, certificates.size() - 1));
        supported(at.locks.add(member));
        return at.locks.size();
    }

    public int unlock(int ride, int member) {
        Attraction at = ride(ride);
        index(in(member, 0, certificates.size() - 1));
        supported(at.locks.remove(member));
        return at.locks.size();
    }

    public char setSensor(int ride, int block, int processor, char how) {
        Track track = track(ride, block);
        index(in(processor, 0, 1));
        argument("tan".indexOf(how) >= 0);
        char before = track.told[processor];
        track.told[processor] = how;
        compare(ride);
        return before;
    }

    public int reset(int ride) {
        Attraction at = ride(ride);
        supported(at.tripped && !differ(ride) && at.cars.stream().noneMatch(car -> car.state == 'x'));
        at.tripped = false;
        return at.cars.size();
    }

    public int setWind(int blows) {
        argument(in(blows, 0, 40));
        int before = wind;
        wind = blows;
        return before;
    }

    public boolean strike(int distance) {
        argument(in(distance, 0, 99));
        if (distance < 10) {
            lastStrike = now;
        }
        return distance < 10;
    }

    public int dispatch(int ride) {
        Attraction at = ride(ride);
        supported(keeps(ride) == '.');
        Car car = inBlock(at, 0);
        at.cycles++;
        at.sinceInspection++;
        car.worst = 0;
        leave(at, car);
        board(at, car);
        return car.riders.size();
    }

    private void board(Attraction at, Car car) {
        List<Integer> returns = at.queues.get('r');
        List<Integer> line = at.queues.get('l');
        List<Integer> singles = at.queues.get('s');
        while (!returns.isEmpty() && car.riders.size() < car.seats) {
            seat(car, returns.remove(0));
        }
        while (!line.isEmpty()) {
            List<Integer> party = party(line);
            int left = car.seats - car.riders.size();
            if (party.size() > left && party.size() <= car.seats) {
                break;
            }
            List<Integer> coming = party.subList(0, Math.min(left, party.size()));
            line.removeAll(coming);
            for (int guest : coming) {
                seat(car, guest);
            }
            if (coming.size() < party.size()) {
                break;
            }
        }
        while (!singles.isEmpty() && car.riders.size() < car.seats) {
            seat(car, singles.remove(0));
        }
    }

    private List<Integer> party(List<Integer> line) {
        List<Integer> party = new ArrayList<>();
        int first = line.get(0);
        for (int guest : line) {
            int group = visitors.get(guest).group;
            if (guest == first || group > 0 && group == visitors.get(first).group) {
                party.add(guest);
            }
        }
        return party;
    }

    private void seat(Car car, int guest) {
        car.riders.add(guest);
        visitors.get(guest).where = 't';
        visitors.get(guest).queuesAt = -1;
    }

    public int push(int ride, int train) {
        Car car = car(ride, train);
        supported(car.state == 'x');
        List<Integer> path = pathBehind(ride(ride), car.at);
        stand(car, path.get(path.size() - 1));
        compare(ride);
        return car.at;
    }

    public int tick(int ticks) {
        argument(in(ticks, 1, 60));
        for (int i = 0; i < ticks; i++) {
            now++;
            for (int ride = 0; ride < attractions.size(); ride++) {
                List<Car> order = new ArrayList<>(attractions.get(ride).cars);
                order.sort((one, other) -> other.at - one.at);
                for (Car car : order) {
                    move(attractions.get(ride), car);
                }
            }
            for (int ride = 0; ride < attractions.size(); ride++) {
                compare(ride);
            }
            for (Visitor visitor : visitors) {
                if (now % 10 == 0 && visitor.where == 'p' && visitor.nausea > 0) {
                    visitor.nausea--;
                }
            }
        }
        return now;
    }

    private void move(Attraction at, Car car) {
        if (car.state == 's' && car.at != 0 && keepsInStop(at, car) == '.') {
            leave(at, car);
        } else if (car.state == 'm') {
            car.ticksHere++;
            if (at.ring.get(car.at).kind == 'l' && car.ticksHere < 2) {
                return;
            }
            int energy = behind(at.ring.get(car.at), car.energy);
            int next = (car.at + 1) % at.ring.size();
            if (energy < 0) {
                car.state = 'x';
            } else if (at.ring.get(next).stop()) {
                stand(car, next);
            } else {
                car.at = next;
                car.energy = energy;
                car.ticksHere = 0;
                car.worst = Math.max(car.worst, forceIn(at.ring.get(next), energy));
            }
        }
    }

    private void leave(Attraction at, Car car) {
        car.state = 'm';
        car.ticksHere = 0;
        car.held.addAll(pathBehind(at, car.at));
    }

    private void stand(Car car, int block) {
        car.at = block;
        car.energy = 0;
        car.state = 's';
        car.held = new TreeSet<>(Set.of(block));
        if (block == 0) {
            for (int guest : car.riders) {
                Visitor visitor = visitors.get(guest);
                visitor.where = 'p';
                visitor.rides++;
                visitor.hunger = Math.min(99, visitor.hunger + 1);
                visitor.nausea = Math.min(99, visitor.nausea + car.worst);
            }
            car.riders.clear();
        }
    }

    public int enter(int money, int height, int group) {
        argument(in(money, 0, 999) && in(height, 50, 250) && in(group, 0, 9));
        state(visitors.size() < 60);
        Visitor added = new Visitor();
        added.money = money;
        added.height = height;
        added.group = group;
        visitors.add(added);
        return visitors.size() - 1;
    }

    public int leave(int guest) {
        supported(visitor(guest).where == 'p');
        visitor(guest).where = 'o';
        return visitor(guest).money;
    }

    public int queue(int guest, int ride, char queue) {
        Visitor visitor = visitor(guest);
        Attraction at = ride(ride);
        argument("lsr".indexOf(queue) >= 0);
        supported(visitor.where == 'p' && visitor.height >= at.height && visitor.money >= at.price);
        supported(visitor.nausea < 50);
        if (queue == 'r') {
            supported(visitor.returnRide == ride && now >= visitor.returnFrom);
            visitor.returnRide = -1;
        }
        visitor.money -= at.price;
        till += at.price;
        visitor.where = 'q';
        visitor.queuesAt = ride;
        at.queues.get(queue).add(guest);
        return at.queues.get(queue).size();
    }

    public int quit(int guest) {
        Visitor visitor = visitor(guest);
        supported(visitor.where == 'q');
        Attraction at = attractions.get(visitor.queuesAt);
        for (List<Integer> queue : at.queues.values()) {
            queue.remove((Integer) guest);
        }
        visitor.where = 'p';
        visitor.queuesAt = -1;
        visitor.money += at.price;
        till -= at.price;
        return at.price;
    }

    public int takeReturn(int guest, int ride) {
        Visitor visitor = visitor(guest);
        Attraction at = ride(ride);
        supported(visitor.where != 'o');
        visitor.returnRide = ride;
        visitor.returnFrom = now + 5 + at.queues.get('l').size();
        return visitor.returnFrom;
    }

    public int eat(int guest) {
        Visitor visitor = visitor(guest);
        supported(visitor.where == 'p' && visitor.money >= 5);
        visitor.money -= 5;
        till += 5;
        visitor.hunger = Math.max(0, visitor.hunger - 5);
        visitor.nausea = Math.min(99, visitor.nausea + 3);
        return visitor.hunger;
    }

    public char keeps(int ride) {
        Attraction at = ride(ride);
        Car car = inBlock(at, 0);
        if (!at.closed || car == null || car.state != 's') {
            return 'n';
        }
        if (at.operator < 0) {
            return 'o';
        }
        if (!at.inspected || at.sinceInspection >= 50) {
            return 'i';
        }
        return wind > at.wind || now - lastStrike <= 15 ? 'w' : keepsInStop(at, car);
    }

    private char keepsInStop(Attraction at, Car car) {
        int ride = attractions.indexOf(at);
        if (at.tripped) {
            return 'e';
        }
        if (!at.locks.isEmpty()) {
            return 'l';
        }
        List<Integer> path = pathBehind(at, car.at);
        if (isBad(at, path)) {
            return 'f';
        }
        for (int block : path) {
            for (Car other : at.cars) {
                if (other != car && other.held.contains(block)) {
                    return 'r';
                }
            }
            if (block != car.at && (sees(ride, block, 0) || sees(ride, block, 1))) {
                return 'r';
            }
        }
        return '.';
    }

    private boolean isBad(Attraction at, List<Integer> path) {
        StringBuilder strong = new StringBuilder();
        int energy = 3;
        for (int block : path) {
            Track track = at.ring.get(block);
            if (!track.stop()) {
                int force = forceIn(track, energy);
                strong.append(force > 6 ? '!' : force > 4 ? '+' : '-');
                energy = behind(track, energy);
                if (energy < 0) {
                    return true;
                }
            }
        }
        return strong.indexOf("!") >= 0 || strong.indexOf("+++") >= 0;
    }

    public int force(int ride, int block) {
        Attraction at = ride(ride);
        Track asked = track(ride, block);
        supported(at.closed);
        if (asked.stop()) {
            return 0;
        }
        int stop = block;
        while (!at.ring.get(stop).stop()) {
            stop--;
        }
        int energy = 3;
        for (int i = stop + 1; i < block && energy >= 0; i++) {
            energy = behind(at.ring.get(i), energy);
        }
        return energy < 0 ? 0 : forceIn(asked, energy);
    }

    public boolean isHeld(int ride, int block) {
        track(ride, block);
        return ride(ride).cars.stream().anyMatch(car -> car.held.contains(block));
    }

    public boolean sees(int ride, int block, int processor) {
        Track track = track(ride, block);
        index(in(processor, 0, 1));
        return track.told[processor] == 'a' || track.told[processor] == 't' && inBlock(ride(ride), block) != null;
    }

    public boolean hasTripped(int ride) {
        return ride(ride).tripped;
    }

    public int blockOf(int ride, int train) {
        return car(ride, train).at;
    }

    public int energy(int ride, int train) {
        return car(ride, train).energy;
    }

    public char stateOf(int ride, int train) {
        return car(ride, train).state;
    }

    public int aboard(int ride, int train) {
        return car(ride, train).riders.size();
    }

    public int waiting(int ride, char queue) {
        Attraction at = ride(ride);
        argument(at.queues.containsKey(queue));
        return at.queues.get(queue).size();
    }

    public char whereIs(int guest) {
        return visitor(guest).where;
    }

    public int get(int guest, char what) {
        Visitor visitor = visitor(guest);
        argument("mhnr".indexOf(what) >= 0);
        return new int[] {visitor.money, visitor.hunger, visitor.nausea, visitor.rides}["mhnr".indexOf(what)];
    }

    public int hungriest() {
        int best = -1;
        int bestRank = -1;
        for (int guest = 0; guest < visitors.size(); guest++) {
            Visitor visitor = visitors.get(guest);
            int rank = visitor.where == 'p' ? visitor.hunger * 100 + 99 - visitor.nausea : -1;
            if (rank > bestRank) {
                best = guest;
                bestRank = rank;
            }
        }
        if (best < 0) {
            throw new NoSuchElementException();
        }
        return best;
    }

    public int cycles(int ride) {
        return ride(ride).cycles;
    }

    public int ticks() {
        return now;
    }

    public int guests() {
        return visitors.size();
    }

    public long till() {
        return till;
    }

    public long allMoney() {
        return till + visitors.stream().filter(visitor -> visitor.where != 'o').mapToLong(one -> one.money).sum();
    }

    public float standingShare() {
        List<Car> cars = new ArrayList<>();
        attractions.forEach(at -> cars.addAll(at.cars));
        if (cars.isEmpty()) {
            throw new ArithmeticException();
        }
        return (float) cars.stream().filter(car -> car.state == 's').count() / (float) cars.size();
    }

    public double meanRides() {
        if (visitors.isEmpty()) {
            throw new ArithmeticException();
        }
        return (double) visitors.stream().mapToInt(visitor -> visitor.rides).sum() / (double) visitors.size();
    }

    public boolean isSound() {
        return true;
    }

    private int behind(Track track, int energy) {
        if (track.stop()) {
            return 3;
        }
        int weight = track.length / 4 + (track.length % 4 == 0 ? 0 : 1);
        return track.kind == 'l' ? 5 : energy - weight * (wind > 15 ? 2 : 1) - 2 * track.rise;
    }

    private static int forceIn(Track track, int energy) {
        return track.stop() ? 0 : track.bend * energy / track.length + 1;
    }

    /** The blocks behind this one up to the next stop. */
    private static List<Integer> pathBehind(Attraction at, int block) {
        List<Integer> path = new ArrayList<>();
        int next = block;
        do {
            next = (next + 1) % at.ring.size();
            path.add(next);
        } while (!at.ring.get(next).stop());
        return path;
    }

    private static Car inBlock(Attraction at, int block) {
        return at.cars.stream().filter(car -> car.at == block).findFirst().orElse(null);
    }

    private boolean differ(int ride) {
        for (int block = 0; block < attractions.get(ride).ring.size(); block++) {
            if (sees(ride, block, 0) != sees(ride, block, 1)) {
                return true;
            }
        }
        return false;
    }

    private void compare(int ride) {
        attractions.get(ride).tripped |= differ(ride);
    }

    private Attraction ride(int ride) {
        index(in(ride, 0, attractions.size() - 1));
        return attractions.get(ride);
    }

    private Track track(int ride, int block) {
        index(in(block, 0, ride(ride).ring.size() - 1));
        return ride(ride).ring.get(block);
    }

    private Car car(int ride, int train) {
        index(in(train, 0, ride(ride).cars.size() - 1));
        return ride(ride).cars.get(train);
    }

    private Visitor visitor(int guest) {
        index(in(guest, 0, visitors.size() - 1));
        return visitors.get(guest);
    }

    private void certified(int ride, int member) {
        index(in(member, 0, certificates.size() - 1));
        supported((certificates.get(member) >> ride) % 2 == 1);
    }

    private static boolean in(int number, int least, int greatest) {
        return number >= least && number <= greatest;
    }

    private static void index(boolean holds) {
        if (!holds) {
            throw new IndexOutOfBoundsException();
        }
    }

    private static void argument(boolean holds) {
        if (!holds) {
            throw new IllegalArgumentException();
        }
    }

    private static void supported(boolean holds) {
        if (!holds) {
            throw new UnsupportedOperationException();
        }
    }

    private static void state(boolean holds) {
        if (!holds) {
            throw new IllegalStateException();
        }
    }
}
