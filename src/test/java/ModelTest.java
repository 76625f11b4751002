import java.lang.reflect.InvocationTargetException;
import java.lang.reflect.Method;
import java.lang.reflect.Modifier;
import java.util.ArrayList;
import java.util.Arrays;
import java.util.List;
import java.util.Map;
import java.util.Random;
import java.util.TreeMap;

/** Long random runs (the same each time), call by call against the second model of Model.java. */
public final class ModelTest {
    private static final Check CHECK = new Check();
    private static final int RUNS = 300;
    private static final int CALLS = 512;
    private static final Map<String, Method> PARK = methods(Coasterland.class);
    private static final Map<String, Method> MODEL = methods(Model.class);

    /** What moves trains and guests; calm, storm and settle are steps of several calls. */
    private static final String[] OFTEN = {"tick", "tick", "tick", "tick", "tick", "dispatch", "dispatch", "dispatch",
        "dispatch", "queue", "queue", "queue", "queue", "queue", "addTrain", "takeReturn", "calm", "calm", "storm",
        "settle"};
    /** What soon brings a park to rest. */
    private static final List<String> RARE = List.of("leave", "lock", "strike", "eat", "assign");
    private static final int[] ODD = {-1, 4, 8, 12, 60, 61, 250, 251, 999, 1000, 32, 64, Integer.MIN_VALUE,
        Integer.MAX_VALUE};

    private final Random random;
    private final Coasterland park = new Coasterland();
    private final Model model = new Model();
    private final int run;
    private final List<Object[]> sensors = new ArrayList<>();
    private final List<Object[]> locks = new ArrayList<>();
    private int rides;
    private int calls;

    private ModelTest(int run) {
        this.run = run;
        random = new Random(run);
    }

    public static void main(String[] args) throws Exception {
        CHECK.is("the methods of the model", PARK.keySet(), MODEL.keySet());
        int runs = args.length > 0 ? Integer.parseInt(args[0]) : RUNS;
        for (int run = 0; run < runs; run++) {
            new ModelTest(run).play();
        }
        CHECK.end();
    }

    private static Map<String, Method> methods(Class<?> type) {
        Map<String, Method> found = new TreeMap<>();
        for (Method method : type.getDeclaredMethods()) {
            if (Modifier.isPublic(method.getModifiers())) {
                found.put(method.getName(), method);
            }
        }
        return found;
    }

    private void play() throws Exception {
        build();
        String[] names = PARK.keySet().toArray(new String[0]);
        while (calls < CALLS) {
            boolean any = random.nextInt(6) == 0;
            step(any ? names[random.nextInt(names.length)] : OFTEN[random.nextInt(OFTEN.length)]);
            if (random.nextInt(16) == 0) {
                lookAtAll();
            }
        }
        lookAtAll();
    }

    private void step(String name) throws Exception {
        if (name.equals("calm")) {
            call("setWind", random.nextInt(12));
        } else if (name.equals("storm")) {
            call("setWind", 15 + random.nextInt(3));
            call("tick", 1 + random.nextInt(2));
        } else if (name.equals("settle")) {
            settle(random.nextInt(Math.max(1, rides)));
        } else if (!RARE.contains(name) || random.nextInt(4) == 0) {
            Object[] values = values(PARK.get(name));
            Object answer = call(name, values);
            if (name.equals("setSensor") && answer instanceof Character) {
                sensors.add(values);
            } else if (name.equals("lock") && answer instanceof Integer) {
                locks.add(values);
            }
        }
    }

    /** Most runs begin with rides that can work, some with nothing. */
    private void build() throws Exception {
        int built = random.nextInt(8) == 0 ? 0 : 1 + random.nextInt(3);
        for (int ride = 0; ride < built; ride++) {
            call("addRide", random.nextInt(3) == 0 ? 120 : 60, 10 + random.nextInt(31), random.nextInt(9));
            rides++;
            ring(ride);
            call("close", ride);
            call("addTrain", ride, 1 + random.nextInt(8));
            call("addStaff", random.nextInt(4) == 0 ? random.nextInt(16) : 15);
            call("assign", ride, ride);
            call("inspect", ride, ride);
        }
        int guests = random.nextInt(4) == 0 ? random.nextInt(61) : random.nextInt(25);
        for (int guest = 0; guest < guests; guest++) {
            call("enter", random.nextInt(4) == 0 ? random.nextInt(40) : 999, 50 + random.nextInt(201),
                    random.nextInt(4));
        }
    }

    /** A ring of which most can be run: the first lift, which needs no energy, rises as much as all others fall. */
    private void ring(int ride) throws Exception {
        int blocks = 4 + random.nextInt(9);
        int fallen = 0;
        int[] rises = new int[blocks];
        StringBuilder kinds = new StringBuilder("s");
        for (int block = 1; block < blocks; block++) {
            kinds.append("btttllbt".charAt(random.nextInt(8)));
            rises[block] = kinds.charAt(block) == 't' ? random.nextInt(3) - (random.nextInt(5) == 0 ? 1 : 2) : 0;
            fallen -= rises[block];
        }
        int lift = kinds.indexOf("l");
        for (int block = 0; block < blocks; block++) {
            boolean stop = "sb".indexOf(kinds.charAt(block)) >= 0;
            int rise = lift < 0 ? 0 : block == lift ? Math.min(9, fallen) : rises[block];
            int bend = stop ? 0 : random.nextInt(random.nextInt(12) == 0 ? 10 : 4);
            int length = 1 + random.nextInt(stop || random.nextInt(8) == 0 ? 20 : 6);
            call("addBlock", ride, kinds.charAt(block), length, rise, bend);
        }
    }

    /** Does what brings a ride back to work. */
    private void settle(int ride) throws Exception {
        call("setWind", random.nextInt(12));
        for (Object[] told : sensors) {
            call("setSensor", told[0], told[1], told[2], 't');
        }
        sensors.clear();
        for (Object[] lock : locks) {
            call("unlock", lock);
        }
        locks.clear();
        for (int train = 0; train < 4; train++) {
            if (answer(MODEL.get("stateOf"), model, ride, train).equals('x')) {
                call("push", ride, train);
            }
        }
        if (answer(MODEL.get("keeps"), model, ride).equals('i')) {
            call("inspect", ride, ride);
        }
        call("reset", ride);
        call("dispatch", ride);
    }

    private Object[] values(Method method) {
        Object[] values = new Object[method.getParameterCount()];
        for (int i = 0; i < values.length; i++) {
            boolean sign = method.getParameterTypes()[i] == char.class;
            values[i] = sign ? (Object) sign(method.getName()) : (Object) number(method.getName(), i);
        }
        return values;
    }

    private char sign(String name) {
        if (random.nextInt(20) == 0) {
            return (char) random.nextInt(128);
        }
        String signs = name.equals("queue") ? "lllllsr" : name.equals("waiting") ? "lsr" : name.equals("get") ? "mhnr"
                : name.equals("setSensor") ? "tan" : "sblt";
        return signs.charAt(random.nextInt(signs.length()));
    }

    private int number(String name, int place) {
        if (random.nextInt(40) == 0) {
            return ODD[random.nextInt(ODD.length)];
        }
        boolean ofGuest = List.of("leave", "queue", "quit", "takeReturn", "eat", "whereIs", "get").contains(name);
        if (name.equals("tick")) {
            return 1 + random.nextInt(random.nextInt(8) == 0 ? 60 : 4);
        }
        if (name.equals("setWind") || name.equals("strike")) {
            return random.nextInt(24);
        }
        if (ofGuest && place == 0) {
            return random.nextInt(Math.max(1, park.guests()));
        }
        if (place == (ofGuest ? 1 : 0)) {
            return random.nextInt(Math.max(1, rides));
        }
        return random.nextInt(name.equals("enter") ? 130 : name.equals("setSensor") && place == 2 ? 2 : 9);
    }

    private Object call(String name, Object... values) throws Exception {
        if (calls == CALLS) {
            return CALLS;
        }
        calls++;
        Object due = answer(MODEL.get(name), model, values);
        Object got = answer(PARK.get(name), park, values);
        CHECK.is("run " + run + ", call " + calls + ", " + name + Arrays.toString(values), due, got);
        return got;
    }

    /** Asks for all that can be asked without a change. */
    private void lookAtAll() throws Exception {
        for (int ride = 0; ride < 4; ride++) {
            ask("keeps", ride);
            ask("hasTripped", ride);
            ask("cycles", ride);
            for (char queue : "lsr".toCharArray()) {
                ask("waiting", ride, queue);
            }
            for (int block = 0; block < 12; block++) {
                ask("force", ride, block);
                ask("isHeld", ride, block);
                ask("sees", ride, block, 0);
                ask("sees", ride, block, 1);
            }
            for (int train = 0; train < 4; train++) {
                ask("blockOf", ride, train);
                ask("energy", ride, train);
                ask("stateOf", ride, train);
                ask("aboard", ride, train);
            }
        }
        for (int guest = 0; guest < park.guests(); guest++) {
            ask("whereIs", guest);
            for (char what : "mhnr".toCharArray()) {
                ask("get", guest, what);
            }
        }
        for (String name : List.of("hungriest", "ticks", "guests", "till", "allMoney", "standingShare", "meanRides",
                "isSound")) {
            ask(name);
        }
    }

    private void ask(String name, Object... values) throws Exception {
        Object due = answer(MODEL.get(name), model, values);
        Object got = answer(PARK.get(name), park, values);
        CHECK.is("run " + run + ", behind call " + calls + ", " + name + Arrays.toString(values), due, got);
    }

    private static Object answer(Method method, Object object, Object... values) throws Exception {
        try {
            return method.invoke(object, values);
        } catch (InvocationTargetException e) {
            return e.getCause().getClass();
        }
    }
}
