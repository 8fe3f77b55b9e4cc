/** What every test of the project uses to tell which answers are not the ones that are due. */
final class Check {
    static final Class<?> INDEX = IndexOutOfBoundsException.class;
    static final Class<?> ARGUMENT = IllegalArgumentException.class;
    static final Class<?> STATE = IllegalStateException.class;

    /** The strength of the sun in the hours 0 to 23. */
    static final int[] STRENGTHS = {0, 0, 0, 0, 0, 0, 1, 3, 5, 7, 9, 10, 10, 9, 7, 5, 3, 1, 0, 0, 0, 0, 0, 0};

    private static int asked = 0;
    private static int wrong = 0;

    private Check() {
    }

    static void due(String call, Object got, Object want) {
        asked++;
        if (got.equals(want)) return;
        wrong++;
        System.out.println(call + " answered " + got + ", due is " + want);
    }

    static void due(String call, long got, long want) {
        due(call, Long.valueOf(got), Long.valueOf(want));
    }

    static void due(String call, boolean got, boolean want) {
        due(call, Boolean.valueOf(got), Boolean.valueOf(want));
    }

    /** The very class is due, and thrown by the class itself: one of the machine's or the library's is wrong. */
    static void refuses(String call, Class<?> kind, Runnable run) {
        String got = "no exception";
        try {
            run.run();
        } catch (RuntimeException e) {
            got = nameOf(e);
        }
        due(call + " throws", got, kind.getName());
    }

    static String nameOf(Throwable e) {
        StackTraceElement[] trace = e.getStackTrace();
        boolean isOwn = trace.length > 0 && trace[0].getClassName().startsWith("Heliokeep");
        return e.getClass().getName() + (isOwn ? "" : " from elsewhere");
    }

    static void end(String test) {
        System.out.println(test + ": " + asked + " answers looked at, " + wrong + " wrong");
        if (wrong > 0 || asked == 0) System.exit(1);
    }

    /** A new object with mirrors in the cells, behind so many ticks. */
    static Heliokeep plant(int ticks, int... cells) {
        Heliokeep x = new Heliokeep();
        for (int cell : cells) x.mirror(cell);
        passAll(x, ticks);
        return x;
    }

    static void passAll(Heliokeep x, int ticks) {
        for (int left = ticks; left > 0; left -= 48) x.pass(Math.min(48, left));
    }

    static void boundAll(Heliokeep x, int bound) {
        for (int panel = 0; panel < 6; panel++) x.bound(panel, bound);
    }

    static void dueFluxes(String state, Heliokeep x, int... want) {
        for (int panel = 0; panel < 6; panel++) {
            due(state + ": flux(" + panel + ")", x.flux(panel), want[panel]);
            due(state + ": fluxAnew(" + panel + ")", x.fluxAnew(panel), want[panel]);
        }
    }

    /** The sum, by both ways, and the aims in the set's order; beyond these there is none. */
    static void dueBest(String state, Heliokeep x, int set, int sum, int... aims) {
        due(state + ": the sum", x.best(set, Heliokeep.NONE), sum);
        due(state + ": the sum anew", x.bestAnew(set), sum);
        for (int k = 0; k < aims.length; k++) due(state + ": the aim " + k, x.best(set, k), aims[k]);
        refuses(state + ": the aim -2", ARGUMENT, () -> x.best(set, -2));
        refuses(state + ": no such aim", ARGUMENT, () -> x.best(set, Integer.bitCount(set)));
    }

    /** Those that are not given are 0. */
    static void dueSums(String state, Heliokeep x, long... want) {
        for (int what = 0; what < 13; what++) {
            due(state + ": sum(" + what + ")", x.sum(what), what < want.length ? want[what] : 0);
        }
    }

    static void duePlant(String state, Heliokeep x, int... want) {
        for (int what = 0; what < 11; what++) due(state + ": plantIs(" + what + ")", x.plantIs(what), want[what]);
    }

    static void dueMirror(String state, Heliokeep x, int mirror, int... want) {
        for (int what = 0; what < 8; what++) {
            due(state + ": mirrorIs(" + mirror + ", " + what + ")", x.mirrorIs(mirror, what), want[what]);
        }
    }
}
