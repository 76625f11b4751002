/** Counts the answers of one test that are not as due, and ends it with exit code 1 if there was one. */
final class Check {
    interface Call {
        Object run();
    }

    static final Class<IndexOutOfBoundsException> INDEX = IndexOutOfBoundsException.class;
    static final Class<IllegalArgumentException> ARGUMENT = IllegalArgumentException.class;
    static final Class<UnsupportedOperationException> UNSUPPORTED = UnsupportedOperationException.class;
    static final Class<IllegalStateException> STATE = IllegalStateException.class;

    private int looked;
    private int wrong;

    void is(String what, Object due, Object got) {
        looked++;
        if (!due.equals(got)) {
            wrong++;
            System.out.println(what + " answered " + got + ", due is " + due);
        }
    }

    void holds(String what, boolean got) {
        is(what, true, got);
    }

    /** The call must throw just this exception, and leave everything as it was. */
    void fails(String what, Class<? extends RuntimeException> due, Coasterland park, Call call) {
        is(what, due, answerWithoutChange(what, park, call));
    }

    /** The call must give this answer, and leave everything as it was. */
    void tells(String what, Object due, Coasterland park, Call call) {
        is(what, due, answerWithoutChange(what, park, call));
    }

    private Object answerWithoutChange(String what, Coasterland park, Call call) {
        String asked = Snapshot.of(park);
        String inside = Inside.of(park);
        Object got = answer(call);
        is(what + ", all that can be asked behind it", asked, Snapshot.of(park));
        is(what + ", all that stands inside behind it", inside, Inside.of(park));
        return got;
    }

    /** What the call answers, or the class of what it throws. */
    static Object answer(Call call) {
        try {
            return call.run();
        } catch (RuntimeException e) {
            return e.getClass();
        }
    }

    void end() {
        System.out.println(looked + " answers looked at, " + wrong + " not as due");
        if (wrong > 0) {
            System.exit(1);
        }
    }
}
