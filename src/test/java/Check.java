/** What every test needs: it tells each answer that is not the one that is due, and ends with exit code 1 if there was one. */
final class Check {
    interface Run {
        void run();
    }

    interface RunWith {
        void run(int value);
    }

    private static int wrong = 0;

    private Check() {
    }

    static void due(String what, long got, long due) {
        if (got != due) {
            tell(what + " answered " + got + ", due is " + due);
        }
    }

    static void due(String what, double got, double due) {
        if (Double.compare(got, due) != 0) {
            tell(what + " answered " + got + ", due is " + due);
        }
    }

    static void due(String what, boolean got, boolean due) {
        if (got != due) {
            tell(what + " answered " + got + ", due is " + due);
        }
    }

    /** The call has to throw exactly that, and to change nothing that can be asked. */
    static void refused(String what, Handoverhouse x, Class<? extends RuntimeException> due, Run call) {
        long before = x.digest();
        Class<?> got = null;
        try {
            call.run();
        } catch (RuntimeException e) {
            got = e.getClass();
        }
        if (got != due) {
            tell(what + " threw " + got + ", due is " + due);
        }
        if (x.digest() != before) {
            tell(what + " changed something");
        }
    }

    static void noChange(String what, Handoverhouse x, Run call) {
        long before = x.digest();
        call.run();
        due(what + " changes nothing", x.digest(), before);
    }

    static void noNumber(String what, Handoverhouse x, Run call) {
        refused(what, x, IndexOutOfBoundsException.class, call);
    }

    static void noArgument(String what, Handoverhouse x, Run call) {
        refused(what, x, IllegalArgumentException.class, call);
    }

    static void noState(String what, Handoverhouse x, Run call) {
        refused(what, x, IllegalStateException.class, call);
    }

    /** Every number that is too small or too large, the nearest and the farthest ones, has to be refused. */
    static void outside(String what, Handoverhouse x, int least, int most, RunWith call) {
        for (int value : new int[] {least - 1, most + 1, Integer.MIN_VALUE, Integer.MAX_VALUE}) {
            noArgument(what + " " + value, x, () -> call.run(value));
        }
    }

    /** There are so many, numbered from 0: every number beside them has to be refused. */
    static void noSuch(String what, Handoverhouse x, int count, RunWith call) {
        for (int value : new int[] {-1, count, Integer.MIN_VALUE, Integer.MAX_VALUE}) {
            noNumber(what + " " + value, x, () -> call.run(value));
        }
    }

    static void tell(String what) {
        wrong++;
        System.out.println(what);
    }

    static void end() {
        System.out.println(wrong == 0 ? "all answers are as due" : wrong + " answers are not as due");
        if (wrong != 0) {
            System.exit(1);
        }
    }
}
