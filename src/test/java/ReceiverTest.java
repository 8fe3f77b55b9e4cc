/** Promises 14 to 20. */
public final class ReceiverTest {
    public static void main(String[] args) {
        bound();
        flux();
        fluxRefused();
        strain();
        isSafe();
        isSafeWithSeveral();
        bestOfOne();
        bestOfSeveral();
        bestWithOthers();
        bestRefused();
        Check.end("ReceiverTest");
    }

    private static void bound() {
        Heliokeep x = new Heliokeep();
        for (int panel = 0; panel < 6; panel++) {
            Check.due("bound at first", x.bound(panel, 9999), 3000);
            Check.due("bound once more", x.bound(panel, panel), 9999);
        }
        for (int panel = 0; panel < 6; panel++) Check.due("each of its own", x.bound(panel, 0), panel);
        Check.refuses("bound(6, 0)", Check.INDEX, () -> x.bound(6, 0));
        Check.refuses("bound(-1, 10000)", Check.INDEX, () -> x.bound(-1, 10000));
        Check.refuses("bound(0, 10000)", Check.ARGUMENT, () -> x.bound(0, 10000));
        Check.refuses("bound(0, -1)", Check.ARGUMENT, () -> x.bound(0, -1));
        Check.due("bound(0, 1), as it was", x.bound(0, 1), 0);
    }

    private static void flux() {
        Heliokeep x = Check.plant(11, 3);
        Check.dueFluxes("stowed", x, 0, 0, 0, 0, 0, 0);
        for (int aim = 0; aim < 6; aim++) {
            x.aim(0, aim);
            int[] want = new int[8];
            want[aim] = 190;
            want[aim + 1] = 570;
            want[aim + 2] = 190;
            Check.dueFluxes("aim " + aim, x, want[1], want[2], want[3], want[4], want[5], want[6]);
        }
        x.drift(0, 1);
        Check.dueFluxes("one beyond", x, 0, 0, 0, 0, 0, 190);
        x.drift(0, 1);
        Check.dueFluxes("two beyond", x, 0, 0, 0, 0, 0, 0);
        x.correct(0, 3);
        Check.dueFluxes("corrected too far", x, 0, 0, 0, 190, 570, 190);
        x.aim(0, 0);
        Check.dueFluxes("one ahead", x, 190, 0, 0, 0, 0, 0);
        x.drift(0, -1);
        Check.dueFluxes("two ahead", x, 0, 0, 0, 0, 0, 0);
        x.aim(0, Heliokeep.STOWED);
        x.correct(0, -3);
        Check.dueFluxes("stowed, whatever its error", x, 0, 0, 0, 0, 0, 0);

        // Rays are rounded down before they are added: 453 are ten of 45.
        Heliokeep dirty = Check.plant(33, 0, 3);
        dirty.haze(1);
        dirty.aim(0, 2);
        dirty.aim(1, 3);
        Check.dueFluxes("rounded", dirty, 0, 90, 270 + 106, 90 + 318, 106, 0);
        dirty.cloud(0, 3, 1, 1, 0, 0);
        Check.dueFluxes("one below a cloud", dirty, 0, 90, 270, 90, 0, 0);
    }

    private static void fluxRefused() {
        Heliokeep x = Check.plant(11, 3);
        Check.refuses("flux(6)", Check.INDEX, () -> x.flux(6));
        Check.refuses("flux(-1)", Check.INDEX, () -> x.flux(-1));
        Check.refuses("fluxAnew(6)", Check.INDEX, () -> x.fluxAnew(6));
        Check.refuses("fluxAnew(-1)", Check.INDEX, () -> x.fluxAnew(-1));
        Check.refuses("strain(6)", Check.INDEX, () -> x.strain(6));
        Check.refuses("strain(-1)", Check.INDEX, () -> x.strain(-1));
    }

    private static void strain() {
        Heliokeep x = Check.plant(11, 3);
        x.aim(0, 2);
        x.bound(1, 190);
        x.bound(2, 569);
        x.bound(3, 189);
        x.fail(0, true);
        x.pass(1);
        x.bound(2, 570);
        x.bound(3, 190);
        x.pass(1);
        int[] want = {0, 0, 1, 1, 0, 0};
        for (int panel = 0; panel < 6; panel++) Check.due("strain(" + panel + ")", x.strain(panel), want[panel]);
        x.bound(2, 0);
        x.pass(1);
        Check.due("strain(2), in each tick", x.strain(2), 2);
        Check.due("trips", x.plantIs(10), 2);

        Heliokeep all = Check.plant(11, 3, 2, 4);
        for (int k = 0; k < 3; k++) all.aim(k, 2 * k);
        Check.boundAll(all, 0);
        all.pass(1);
        for (int panel = 0; panel < 6; panel++) Check.due("all of them, strain(" + panel + ")", all.strain(panel), 1);
        Check.due("and one trip", all.plantIs(10), 1);
    }

    private static void isSafe() {
        Heliokeep x = Check.plant(11, 3);
        Check.boundAll(x, 0);
        Check.due("stowed", x.isSafe(), true);
        Check.boundAll(x, 3000);
        x.aim(0, 2);
        int[] least = {190, 570, 570, 570, 190, 0};
        for (int panel = 0; panel < 6; panel++) {
            x.bound(panel, least[panel]);
            Check.due("just safe, panel " + panel, x.isSafe(), true);
            if (least[panel] > 0) {
                x.bound(panel, least[panel] - 1);
                Check.due("just not safe, panel " + panel, x.isSafe(), false);
            }
            x.bound(panel, 3000);
        }
        x.fail(0, true);
        x.bound(1, 569);
        Check.due("a broken one errs too", x.isSafe(), false);
        x.fail(0, false);
        x.aim(0, Heliokeep.STOWED);
        Check.due("a stowed one does not", x.isSafe(), true);
        x.aim(0, 5);
        x.drift(0, 2);
        x.bound(5, 189);
        Check.due("nothing on a panel, one less would", x.isSafe(), false);
        x.bound(5, 190);
        Check.due("one less is within the bound", x.isSafe(), true);
        x.drift(0, 1);
        x.bound(5, 0);
        Check.due("too far to come near", x.isSafe(), true);
        Check.dueFluxes("as it was", x, 0, 0, 0, 0, 0, 0);
        x.drift(0, -6);
        x.correct(0, 2);
        x.aim(0, 3);
        x.bound(0, 189);
        x.bound(1, 3000);
        Check.due("nothing on a panel, one more would", x.isSafe(), false);
        x.bound(0, 190);
        Check.due("one more is within the bound", x.isSafe(), true);
    }

    private static void isSafeWithSeveral() {
        Heliokeep x = Check.plant(11, 2, 4);
        x.aim(0, 1);
        x.aim(1, 3);
        Check.boundAll(x, 720);
        Check.due("one of them only", x.isSafe(), true);
        for (int panel = 1; panel < 4; panel++) {
            x.bound(panel, 719);
            Check.due("719 for the panel " + panel, x.isSafe(), false);
            x.bound(panel, 720);
        }
        Check.dueFluxes("as they were", x, 180, 540, 360, 540, 180, 0);
        x.pass(6);
        Check.boundAll(x, 0);
        Check.due("in the shade and out of it", x.isSafe(), false);
        x.pass(1);
        Check.due("by night", x.isSafe(), true);
    }

    private static void bestOfOne() {
        Heliokeep x = Check.plant(0, 3);
        Check.dueBest("by night", x, 1, 0, Heliokeep.STOWED);
        x.pass(11);
        Check.dueBest("at noon", x, 1, 950, 1);
        x.drift(0, 1);
        Check.dueBest("with an error", x, 1, 950, 0);
        x.drift(0, 2);
        x.correct(0, -3);
        Check.dueBest("far too high", x, 1, 190, 0);
        x.drift(0, -6);
        x.correct(0, 3);
        Check.dueBest("far too low", x, 1, 190, 5);
        x.correct(0, -3);
        x.bound(0, 570);
        x.bound(1, 189);
        x.bound(2, 190);
        x.bound(3, 570);
        x.bound(4, 189);
        Check.dueBest("just above", x, 1, 0, Heliokeep.STOWED);
        x.bound(4, 190);
        Check.dueBest("just within", x, 1, 950, 3);
        x.bound(3, 569);
        Check.dueBest("below the second bound", x, 1, 760, 5);
        x.bound(5, 569);
        Check.dueBest("nowhere", x, 1, 0, Heliokeep.STOWED);
        Check.due("the aim stays", x.mirrorIs(0, 2), Heliokeep.STOWED);
    }

    private static void bestOfSeveral() {
        Heliokeep x = Check.plant(11, 2, 4, 19, 60);
        Check.boundAll(x, 540);
        Check.dueBest("apart", x, 3, 1800, 1, 3);
        Check.boundAll(x, 0);
        x.bound(0, 180);
        x.bound(1, 540);
        x.bound(2, 180);
        Check.dueBest("one of two alike", x, 3, 900, Heliokeep.STOWED, 1);
        x.drift(0, 3);
        x.correct(0, -3);
        x.drift(2, -3);
        x.correct(2, 3);
        Check.boundAll(x, 3000);
        Check.dueBest("by their numbers", x, 5, 180 + 170, 0, 5);
        Check.dueBest("by their numbers, others", x, 10, 900 + 550, 1, 1);
        Check.dueBest("all four", x, 15, 180 + 900 + 170 + 550, 0, 1, 5, 1);
        Check.boundAll(x, 400);
        Check.dueBest("all four, with little room", x, 15, x.bestAnew(15));
        Check.dueBest("two with little room", x, 10, x.bestAnew(10));
        x.cloud(0, 4, 1, 1, 0, 0);
        Check.dueBest("one below a cloud", x, 2, 0, Heliokeep.STOWED);
    }

    private static void bestWithOthers() {
        Heliokeep x = Check.plant(11, 2, 4, 3);
        x.aim(0, 5);
        x.aim(2, 1);
        Check.boundAll(x, 570);
        Check.dueFluxes("without it", x, 190, 570, 190, 0, 180, 540);
        Check.dueBest("beside two others", x, 2, 950 + 720 + 900, 3);
        x.bound(1, 569);
        Check.refuses("best above a bound", Check.STATE, () -> x.best(2, Heliokeep.NONE));
        Check.refuses("bestAnew above a bound", Check.STATE, () -> x.bestAnew(2));
        Check.dueBest("the one above it", x, 4, x.bestAnew(4));
        x.fail(0, true);
        Check.refuses("best, above a bound, with a broken one", Check.ARGUMENT, () -> x.best(3, Heliokeep.NONE));
        Check.refuses("bestAnew, above a bound, with a broken one", Check.ARGUMENT, () -> x.bestAnew(3));
        Check.due("the others as they were", x.mirrorIs(2, 2), 1);
    }

    private static void bestRefused() {
        Heliokeep x = Check.plant(11, 2, 4, 19, 60, 62);
        int[] wrong = {0, -1, 31, 32, 33, Integer.MIN_VALUE, Integer.MAX_VALUE, 1 << 12, Integer.MIN_VALUE + 1};
        for (int set : wrong) {
            Check.refuses("best(" + set + ", NONE)", Check.ARGUMENT, () -> x.best(set, Heliokeep.NONE));
            Check.refuses("bestAnew(" + set + ")", Check.ARGUMENT, () -> x.bestAnew(set));
        }
        Check.refuses("best(3, -2)", Check.ARGUMENT, () -> x.best(3, -2));
        Check.refuses("best(3, 2)", Check.ARGUMENT, () -> x.best(3, 2));
        Check.refuses("best(30, 4)", Check.ARGUMENT, () -> x.best(30, 4));
        Check.dueBest("four of five", x, 30, 900 + 850 + 550 + 450, 1, 1, 1, 1);
        x.fail(2, true);
        Check.refuses("best(4, NONE), broken", Check.ARGUMENT, () -> x.best(4, Heliokeep.NONE));
        Check.refuses("bestAnew(12), broken", Check.ARGUMENT, () -> x.bestAnew(12));
        Check.due("best(8, NONE), another one", x.best(8, Heliokeep.NONE), 550);
        x.fail(2, false);
        Check.due("best(4, NONE), whole", x.best(4, Heliokeep.NONE), 850);
    }
}
