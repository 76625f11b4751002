/** Counts the answers of one test that are not as due, and ends it with exit code 1 if there was one. */
final class Check {
    interface Call {
        Object run();
    }

    static final Class<IndexOutOfBoundsException> INDEX = IndexOutOfBoundsException.class;
    static final Class<IllegalArgumentException> ARGUMENT = IllegalArgumentException.class;
    static final Class<UnsupportedOperationException> UNSUPPORTED = UnsupportedOperationException.class;
    static final Class<IllegalStateException> STATE = IllegalStateException.class;

    private int looked;
    private int wrong;

    void is(String what, Object due, Object got) {
        looked++;
        if (!due.equals(got)) {
            wrong++;
            System.out.println(what + " answered " + got + ", due is " + due);
        }
    }

    void holds(String what, boolean got) {
        is(what, true, got);
    }

    /** The call must throw just this exception, and leave everything that can be asked as it was. */
    void fails(String what, Class<? extends RuntimeException> due, Coasterland park, Call call) {
        String before = Snapshot.of(park);
        Object got;
        try {
            got = call.run();
        } catch (RuntimeException e) {
            got = e.getClass();
        }
        is(what, due, got);
        is(what + ", all behind it", before, Snapshot.of(park));
    }

    void end() {
        System.out.println(looked + " answers looked at, " + wrong + " not as due");
        if (wrong > 0) {
            System.exit(1);
        }
    }
}
