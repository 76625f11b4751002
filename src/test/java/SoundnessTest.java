import java.lang.reflect.Array;
import java.lang.reflect.Field;

/**
 * Promise 44 where it does not hold. No call brings a park there, so that the test lays hands on its private fields;
 * who gives them other names has to change the names here too.
 */
public final class SoundnessTest {
    private static final Check CHECK = new Check();

    interface Harm {
        void to(Coasterland park) throws ReflectiveOperationException;
    }

    private SoundnessTest() {
    }

    public static void main(String[] args) throws ReflectiveOperationException {
        trains();
        guests();
        money();
        CHECK.end();
    }

    /** Trains in the blocks 2 (0) and 0 (1); guests on the paths (0), aboard (1), in queues (2, 3) and out (4). */
    private static Coasterland park() {
        Coasterland park = Parks.working(3, Parks.ONLY_STOPS, 1);
        Parks.enter(park, 5, 20, 0);
        park.queue(1, 0, 'l');
        park.dispatch(0);
        park.tick(1);
        park.addTrain(0, 1);
        park.tick(2);
        park.lock(0, 0);
        park.queue(2, 0, 'l');
        park.queue(3, 0, 's');
        park.leave(4);
        return park;
    }

    private static void unsound(String what, Harm harm) throws ReflectiveOperationException {
        Coasterland park = park();
        CHECK.tells("44: ahead of it", true, park, park::isSound);
        harm.to(park);
        CHECK.is("44: " + what, false, park.isSound());
    }

    private static void trains() throws ReflectiveOperationException {
        unsound("two trains in one block", park -> set(train(park, 1), "block", 2));
        unsound("two trains in one block, which both hold", park -> {
            set(train(park, 1), "block", 2);
            set(train(park, 1), "held", 1 << 2);
        });
        unsound("two trains hold one block", park -> set(train(park, 1), "held", 1 | 1 << 2));
        unsound("two trains hold one block in which none is", park -> {
            set(train(park, 0), "held", 1 << 2 | 1 << 3);
            set(train(park, 1), "held", 1 | 1 << 3);
        });
        unsound("a train holds nothing", park -> set(train(park, 0), "held", 0));
        unsound("a train holds another block", park -> set(train(park, 0), "held", 1 << 3));
        unsound("the last train holds nothing", park -> set(train(park, 1), "held", 0));
    }

    private static void guests() throws ReflectiveOperationException {
        unsound("in a queue, and on the paths", park -> set(guest(park, 2), "place", 'p'));
        unsound("single, and on the paths", park -> set(guest(park, 3), "place", 'p'));
        unsound("in a queue, and aboard by name", park -> set(guest(park, 2), "place", 't'));
        unsound("aboard, and on the paths", park -> set(guest(park, 1), "place", 'p'));
        unsound("aboard, and in a queue by name", park -> set(guest(park, 1), "place", 'q'));
        unsound("in no queue", park -> set(guest(park, 0), "place", 'q'));
        unsound("in no train", park -> set(guest(park, 0), "place", 't'));
        unsound("in two queues", park -> putFirst(line(park, "singles"), guest(park, 2)));
        unsound("in a queue, and in that of returns", park -> {
            putFirst(line(park, "returns"), guest(park, 2));
            set(line(park, "returns"), "size", 1);
        });
        unsound("out, and in a queue", park -> putFirst(line(park, "longLine"), guest(park, 4)));
        unsound("in a queue of another ride too", park -> {
            park.addRide(0, 0, 0);
            Object line = get(Array.get(get(park, "rideList"), 1), "longLine");
            putFirst(line, guest(park, 2));
            set(line, "size", 1);
        });
    }

    private static void money() throws ReflectiveOperationException {
        unsound("a coin too many", park -> set(guest(park, 0), "money", 21));
        unsound("a coin lost", park -> set(guest(park, 1), "money", 16));
        unsound("a coin of the till lost", park -> set(park, "takenIn", 8L));
        unsound("a coin that went out lost", park -> set(park, "takenOut", 19L));
        unsound("a coin too many brought", park -> set(park, "brought", 101L));
    }

    private static Object train(Coasterland park, int train) throws ReflectiveOperationException {
        return Array.get(get(Array.get(get(park, "rideList"), 0), "trains"), train);
    }

    private static Object guest(Coasterland park, int guest) throws ReflectiveOperationException {
        return Array.get(get(park, "guestList"), guest);
    }

    private static Object line(Coasterland park, String line) throws ReflectiveOperationException {
        return get(Array.get(get(park, "rideList"), 0), line);
    }

    private static void putFirst(Object line, Object guest) throws ReflectiveOperationException {
        Array.set(get(line, "places"), 0, guest);
    }

    private static Object get(Object owner, String name) throws ReflectiveOperationException {
        return field(owner, name).get(owner);
    }

    private static void set(Object owner, String name, Object value) throws ReflectiveOperationException {
        field(owner, name).set(owner, value);
    }

    private static Field field(Object owner, String name) throws ReflectiveOperationException {
        Field field = owner.getClass().getDeclaredField(name);
        field.setAccessible(true);
        return field;
    }
}
