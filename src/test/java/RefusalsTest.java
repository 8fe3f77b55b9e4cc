/**
 * Each number that a call is told: the last value that is allowed and the first one that isn't, on both sides; of
 * several exceptions the one that is listed first; and that a refused call changes nothing, nor does asking.
 */
public final class RefusalsTest {
    /** Stand for the last mirror of the plant, and for the set of all its mirrors. */
    private static final int LAST_MIRROR = -100, ALL_MIRRORS = -101;

    /** What a number may be, and what is due beyond that. */
    private record Range(int least, int most, Class<?> due) {
        int mostIn(Plant plant) {
            if (most == LAST_MIRROR) return plant.mirrors() - 1;
            return most == ALL_MIRRORS ? (1 << plant.mirrors()) - 1 : most;
        }

        int[] beyond(Plant plant) {
            return new int[] {least - 1, mostIn(plant) + 1, Integer.MIN_VALUE, Integer.MAX_VALUE};
        }

        boolean holds(int number, Plant plant) {
            return number >= least && number <= mostIn(plant);
        }
    }

    private record Row(Plant plant, Call call, Range... ranges) {
    }

    private static final Range CELL = new Range(0, 63, Check.INDEX), MIRROR = new Range(0, LAST_MIRROR, Check.INDEX),
            PANEL = new Range(0, 5, Check.INDEX), HOUR = new Range(0, 23, Check.INDEX), SET = argument(1, ALL_MIRRORS),
            UNITS = argument(1, 500), PLACE = argument(-16, 16), SIZE = argument(1, 8), WAY = argument(-1, 1),
            AIM = argument(-1, 5), LOAD = argument(1, 20), TICKS = argument(1, 48);

    /** Calls that are taken, with the range of each of their numbers. */
    private static final Row[] TAKEN = {
        new Row(Plant.NOON, new Call("mirror", 20), CELL),
        new Row(Plant.NOON, new Call("drift", 1, 2), MIRROR, argument(-6, 6)),
        new Row(Plant.NOON, new Call("measure", 1), MIRROR),
        new Row(Plant.NOON, new Call("correct", 1, 2), MIRROR, argument(-3, 3)),
        new Row(Plant.NOON, new Call("aim", 2, 4), MIRROR, AIM),
        new Row(Plant.NOON, new Call("fail", 2, true), MIRROR),
        new Row(Plant.NOON, new Call("fail", 1, false), MIRROR),
        new Row(Plant.FULL, new Call("wash", 1), MIRROR),
        new Row(Plant.NOON, new Call("mirrorIs", 1, 2), MIRROR, argument(0, 7)),
        new Row(Plant.NOON, new Call("power", 1, 2), MIRROR, argument(0, 24)),
        new Row(Plant.NOON, new Call("haze", 3), argument(0, 9)),
        new Row(Plant.NOON, new Call("cloud", 0, 0, 8, 8, 1, 1), PLACE, PLACE, SIZE, SIZE, WAY, WAY),
        new Row(Plant.NOON, new Call("bound", 3, 300), PANEL, argument(0, 9999)),
        new Row(Plant.NOON, new Call("flux", 3), PANEL),
        new Row(Plant.NOON, new Call("fluxAnew", 3), PANEL),
        new Row(Plant.NOON, new Call("strain", 3), PANEL),
        new Row(Plant.NIGHT, new Call("best", 1, 0), SET, argument(-1, 0)),
        new Row(Plant.NIGHT, new Call("best", 13, 0), SET, argument(-1, 2)),
        new Row(Plant.NIGHT, new Call("best", 15, 0), SET, argument(-1, 3)),
        new Row(Plant.NIGHT, new Call("bestAnew", 3), SET),
        new Row(Plant.NOON, new Call("salt", 3), UNITS),
        new Row(Plant.NEW, new Call("load", 3), LOAD),
        new Row(Plant.NOON, new Call("load", 3), LOAD),
        new Row(Plant.NIGHT, new Call("load", 4), LOAD),
        new Row(Plant.NOON, new Call("water", 3), UNITS),
        new Row(Plant.NOON, new Call("price", 3, 4), HOUR, argument(0, 99)),
        new Row(Plant.NOON, new Call("firm", 3, 4), HOUR, argument(0, 200)),
        new Row(Plant.NOON, new Call("pass", 3), TICKS),
        new Row(Plant.NOON, new Call("plantIs", 3), argument(0, 10)),
        new Row(Plant.NOON, new Call("sum", 3), argument(0, 12))};

    /** Calls that are refused by the plant's state, though each of their numbers is within its range. */
    private static final Row[] REFUSED_BY_STATE = {
        new Row(Plant.NOON, new Call("mirror", 3), CELL),
        new Row(Plant.FULL, new Call("mirror", 0), CELL),
        new Row(Plant.FULL, new Call("mirror", 1), CELL),
        new Row(Plant.NIGHT, new Call("measure", 0), MIRROR),
        new Row(Plant.NOON, new Call("measure", 2), MIRROR),
        new Row(Plant.NOON, new Call("aim", 1, 3), MIRROR, AIM),
        new Row(Plant.NOON, new Call("aim", 1, 4), MIRROR, AIM),
        new Row(Plant.NOON, new Call("aim", 1, -1), MIRROR, AIM),
        new Row(Plant.NOON, new Call("wash", 0), MIRROR),
        new Row(Plant.NIGHT, new Call("wash", 0), MIRROR),
        new Row(Plant.NEW, new Call("pipe", false)),
        new Row(Plant.NOON, new Call("pipe", true)),
        new Row(Plant.NIGHT, new Call("pipe", true)),
        new Row(Plant.NIGHT, new Call("pipe", false)),
        new Row(Plant.FULL, new Call("cloud", 0, 0, 1, 1, 0, 0), PLACE, PLACE, SIZE, SIZE, WAY, WAY),
        new Row(Plant.NOON, new Call("best", 1, -1), SET, argument(-1, 0)),
        new Row(Plant.NOON, new Call("best", 13, 2), SET, argument(-1, 2)),
        new Row(Plant.NOON, new Call("bestAnew", 12), SET),
        new Row(Plant.FULL, new Call("salt", 101), UNITS),
        new Row(Plant.FULL, new Call("salt", 1), UNITS),
        new Row(Plant.FULL, new Call("water", 1), UNITS),
        new Row(Plant.NEW, new Call("stop")),
        new Row(Plant.FULL, new Call("stop")),
        new Row(Plant.LAST, new Call("pass", 1), TICKS),
        new Row(Plant.LAST, new Call("pass", 48), TICKS)};

    /** No such set: with a broken mirror, or with five and more; the bound that is broken too is listed later. */
    private static final Row[] NO_SUCH_SET = {
        new Row(Plant.NOON, new Call("best", 2, -1), SET, argument(-1, 0)),
        new Row(Plant.NOON, new Call("best", 3, 0), SET, argument(-1, 1)),
        new Row(Plant.NOON, new Call("bestAnew", 15), SET),
        new Row(Plant.FULL, new Call("best", 31, -1), SET, argument(-1, 4)),
        new Row(Plant.FULL, new Call("best", 4095, 3), SET, argument(-1, 11)),
        new Row(Plant.FULL, new Call("bestAnew", 3968), SET)};

    public static void main(String[] args) {
        for (Row row : TAKEN) {
            takesEdges(row);
            for (Plant plant : Plant.values()) refusesBeyond(plant, row);
        }
        for (Row row : REFUSED_BY_STATE) {
            changesNothing(row.plant(), row.call(), Check.STATE);
            refusesBeyond(row.plant(), row);
        }
        for (Row row : NO_SUCH_SET) {
            changesNothing(row.plant(), row.call(), Check.ARGUMENT);
            refusesBeyond(row.plant(), row);
        }
        for (Plant plant : Plant.values()) askingChangesNothing(plant);
        Check.end("RefusalsTest");
    }

    private static void askingChangesNothing(Plant plant) {
        Heliokeep x = plant.make();
        x.isSafe();
        x.kept();
        for (int panel = 0; panel < 6; panel++) Check.due("fluxAnew", x.fluxAnew(panel), x.flux(panel));
        for (int mirror = 0; mirror < plant.mirrors(); mirror++) {
            x.power(mirror, 24);
            new Call("measure", mirror).answer(x);
            new Call("best", 1 << mirror, 0).answer(x);
            new Call("bestAnew", (1 << mirror) + 1).answer(x);
        }
        String difference = Whole.firstDifference(Whole.of(x, plant.mirrors()), plant.untouched());
        Check.due(plant + ", asked: what has changed", difference, "none");
    }

    private static Range argument(int least, int most) {
        return new Range(least, most, Check.ARGUMENT);
    }

    private static void takesEdges(Row row) {
        for (int place = 0; place < row.ranges().length; place++) {
            Range range = row.ranges()[place];
            for (int value : new int[] {range.least(), range.mostIn(row.plant())}) {
                Call call = row.call().with(place, value);
                String answer = call.answer(row.plant().make());
                Check.due(row.plant() + ": " + call + " is refused", answer.startsWith("throws."), false);
            }
        }
    }

    /** One number is wrong, or two of them. */
    private static void refusesBeyond(Plant plant, Row row) {
        for (int place = 0; place < row.ranges().length; place++) {
            for (int wrong : row.ranges()[place].beyond(plant)) {
                Call call = row.call().with(place, wrong);
                changesNothing(plant, call, firstListed(plant, call, row));
                for (int later = place + 1; later < row.ranges().length; later++) {
                    Call worse = call.with(later, row.ranges()[later].beyond(plant)[(place + later) % 2]);
                    changesNothing(plant, worse, firstListed(plant, worse, row));
                }
            }
        }
    }

    private static Class<?> firstListed(Plant plant, Call call, Row row) {
        for (int place = 0; place < row.ranges().length; place++) {
            Range range = row.ranges()[place];
            if (range.due() == Check.INDEX && !range.holds(call.number(place), plant)) return Check.INDEX;
        }
        return Check.ARGUMENT;
    }

    private static void changesNothing(Plant plant, Call call, Class<?> kind) {
        Heliokeep x = plant.make();
        Check.due(plant + ": " + call, call.answer(x), "throws." + kind.getName());
        String difference = Whole.firstDifference(Whole.of(x, plant.mirrors()), plant.untouched());
        Check.due(plant + ", refused " + call + ": what has changed", difference, "none");
    }
}
