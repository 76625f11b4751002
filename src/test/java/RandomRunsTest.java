import java.lang.management.ManagementFactory;
import java.lang.reflect.InvocationTargetException;
import java.lang.reflect.Method;
import java.lang.reflect.Modifier;
import java.util.ArrayList;
import java.util.Arrays;
import java.util.Comparator;
import java.util.List;
import java.util.Random;

/**
 * Long runs of calls, the same in each run of this test: whatever is called, only exceptions of the document come, a
 * call that throws changes nothing, and trains, guests and coins are where they have to be.
 */
public final class RandomRunsTest {
    private static final Check CHECK = new Check();
    private static final int CALLS = 512;
    private static final int[] ODD = {-1, 0, 1, 3, 4, 5, 8, 11, 12, 15, 16, 59, 60, 61, 99, 100, 250, 251, 999, 1000,
        31, 32, 33, Integer.MIN_VALUE, Integer.MAX_VALUE};
    private static final String[] RINGS = {Parks.TWO_RUNS, Parks.ONLY_STOPS, Parks.WEAK,
        "s1 b1 t8,0,8 t4,0,5 b1 b1 l6,2,1 t4,-2,3 b1 t8,0,2"};
    /** What moves trains and guests is called more often than chance would. */
    private static final String[] OFTEN =
            {"tick", "tick", "dispatch", "dispatch", "queue", "queue", "addTrain", "push"};

    private final Random random;
    private final List<Method> methods = new ArrayList<>();

    private RandomRunsTest(int seed) {
        random = new Random(seed);
        Method[] all = Coasterland.class.getDeclaredMethods();
        Arrays.sort(all, Comparator.comparing(Method::getName));
        for (Method method : all) {
            if (Modifier.isPublic(method.getModifiers())) {
                methods.add(method);
            }
        }
        for (String name : OFTEN) {
            for (Method method : all) {
                if (method.getName().equals(name)) {
                    methods.add(method);
                }
            }
        }
    }

    public static void main(String[] args) throws Exception {
        for (int seed = 0; seed < 150; seed++) {
            new RandomRunsTest(seed).run(seed % 3);
        }
        dearCallsMakeNothing();
        CHECK.end();
    }

    private void run(int wildness) throws Exception {
        Coasterland park = wildness == 2 ? new Coasterland() : begun();
        for (int i = 0; i < CALLS; i++) {
            Method method = methods.get(random.nextInt(methods.size()));
            Object[] values = new Object[method.getParameterCount()];
            for (int k = 0; k < values.length; k++) {
                values[k] = value(method.getParameterTypes()[k], wildness);
            }
            call(park, method, values);
        }
    }

    private Coasterland begun() {
        Coasterland park = new Coasterland();
        for (String ring : RINGS) {
            int ride = Parks.closed(park, 60, 30, 2, ring);
            Parks.staff(park, ride);
            park.addTrain(ride, 1 + random.nextInt(4));
        }
        for (int i = 0; i < 20; i++) {
            park.enter(500, 50 + random.nextInt(100), random.nextInt(4));
        }
        return park;
    }

    private Object value(Class<?> type, int wildness) {
        if (type == char.class) {
            return "sbltanrmhx".charAt(random.nextInt(10));
        }
        int most = wildness == 0 ? 4 : 20;
        return random.nextInt(6) == 0 ? ODD[random.nextInt(ODD.length)] : random.nextInt(most);
    }

    private static void call(Coasterland park, Method method, Object[] values) throws Exception {
        String what = method.getName() + Arrays.toString(values);
        String before = Snapshot.of(park);
        try {
            method.invoke(park, values);
        } catch (InvocationTargetException e) {
            Class<?> thrown = e.getCause().getClass();
            if (!Arrays.asList(method.getExceptionTypes()).contains(thrown) || isOfMachine(e.getCause())) {
                CHECK.is(what, "no " + thrown, thrown);
            }
            CHECK.is(what + ", all behind it", before, Snapshot.of(park));
            return;
        }
        if (!park.isSound() || !trainsAreApart(park)) {
            CHECK.is(what + ", sound behind it", before, Snapshot.of(park));
        }
    }

    /** An exception that the program throws has its own text. */
    private static boolean isOfMachine(Throwable thrown) {
        StackTraceElement[] trace = thrown.getStackTrace();
        return thrown.getMessage() == null || trace.length == 0 || !trace[0].getClassName().startsWith("Coasterland")
                || thrown.getMessage().matches(".*(out of bounds|null|zero).*");
    }

    private static boolean trainsAreApart(Coasterland park) {
        for (int ride = 0; ride < 4; ride++) {
            int seen = 0;
            for (int train = 0; train < 4; train++) {
                int block;
                try {
                    block = park.blockOf(ride, train);
                } catch (IndexOutOfBoundsException e) {
                    break;
                }
                if ((seen & 1 << block) != 0 || !park.isHeld(ride, block)) {
                    return false;
                }
                seen |= 1 << block;
            }
        }
        return true;
    }

    /** All calls of a run live in one room, so that the calls that do the most have to make nothing. */
    private static void dearCallsMakeNothing() {
        Coasterland park = new RandomRunsTest(7).begun();
        for (int guest = 0; guest < 20; guest++) {
            if (park.whereIs(guest) == 'p') {
                try {
                    park.queue(guest, guest % 4, 'l');
                } catch (UnsupportedOperationException e) {
                    continue;
                }
            }
        }
        com.sun.management.ThreadMXBean threads =
                (com.sun.management.ThreadMXBean) ManagementFactory.getThreadMXBean();
        long self = Thread.currentThread().getId();
        park.isSound();
        long before = threads.getThreadAllocatedBytes(self);
        boolean sound = true;
        for (int i = 0; i < CALLS; i++) {
            park.tick(60);
            for (int ride = 0; ride < 4; ride++) {
                if (park.keeps(ride) == '.') {
                    park.dispatch(ride);
                }
            }
            sound &= park.isSound();
        }
        long made = threads.getThreadAllocatedBytes(self) - before;
        CHECK.holds("rule 12: 512 calls of tick(60), dispatch and isSound made " + made + " bytes", made < 10_000);
        CHECK.holds("sound all the time", sound);
    }
}
