/** Promises 1 to 10. */
public final class MirrorsTest {
    public static void main(String[] args) {
        newObject();
        mirror();
        drift();
        measure();
        correct();
        aim();
        fail();
        wash();
        mirrorIs();
        shade();
        power();
        powerBeyondTheLastTick();
        Check.end("MirrorsTest");
    }

    private static void newObject() {
        Heliokeep x = new Heliokeep();
        Check.duePlant("new", x, 0, 0, 100, 0, 0, Heliokeep.EMPTY, 0, Heliokeep.STILL, 0, 0, 0);
        Check.dueSums("new", x, 0, 0, 0, 0, 0, 0, 0, 0, 0, 0, 0, 0, 0);
        Check.dueFluxes("new", x, 0, 0, 0, 0, 0, 0);
        Check.due("new: kept()", x.kept(), 0.0f);
        Check.due("new: isSafe()", x.isSafe(), true);
        Check.due("new: clear()", x.clear(), 0);
        Check.due("new: haze(0)", x.haze(0), 0);
        Check.due("new: trace(false)", x.trace(false), false);
        for (int panel = 0; panel < 6; panel++) {
            Check.due("new: strain(" + panel + ")", x.strain(panel), 0);
            Check.due("new: bound(" + panel + ", 0)", x.bound(panel, 0), 3000);
        }
        for (int hour = 0; hour < 24; hour++) {
            Check.due("new: price(" + hour + ", 0)", x.price(hour, 0), 0);
            Check.due("new: firm(" + hour + ", 0)", x.firm(hour, 0), 0);
        }
        Check.refuses("new: mirrorIs(0, 0)", Check.INDEX, () -> x.mirrorIs(0, 0));
        Check.refuses("new: best(1, -1)", Check.ARGUMENT, () -> x.best(1, -1));
    }

    private static void mirror() {
        Heliokeep x = new Heliokeep();
        Check.refuses("mirror(-1)", Check.INDEX, () -> x.mirror(-1));
        Check.refuses("mirror(64)", Check.INDEX, () -> x.mirror(64));
        Check.due("mirror(63)", x.mirror(63), 0);
        Check.due("mirror(0)", x.mirror(0), 1);
        Check.refuses("mirror(63) again", Check.STATE, () -> x.mirror(63));
        Check.dueMirror("at first", x, 0, 63, 0, Heliokeep.STOWED, 0, 0, 0, 0, 12);
        for (int k = 2; k < 12; k++) Check.due("mirror(" + 2 * k + ")", x.mirror(2 * k), k);
        Check.refuses("a mirror too many", Check.STATE, () -> x.mirror(33));
        Check.refuses("no cell, and a mirror too many", Check.INDEX, () -> x.mirror(64));
        Check.refuses("mirrorIs(12, 0)", Check.INDEX, () -> x.mirrorIs(12, 0));
        Check.due("the last one's cell", x.mirrorIs(11, 0), 22);
    }

    private static void drift() {
        Heliokeep x = Check.plant(11, 3, 11);
        int[] bys = {2, 2, -1, -6, -1, 6, 6, -3, 0};
        int[] errors = {2, 3, 2, -3, -3, 3, 3, 0, 0};
        for (int k = 0; k < bys.length; k++) {
            x.drift(0, bys[k]);
            Check.due("measure(0) behind the drift " + k, x.measure(0), errors[k]);
            Check.due("measure(1) behind the drift " + k, x.measure(1), 0);
        }
        Check.refuses("drift(2, 7)", Check.INDEX, () -> x.drift(2, 7));
        Check.refuses("drift(-1, 0)", Check.INDEX, () -> x.drift(-1, 0));
        Check.refuses("drift(0, 7)", Check.ARGUMENT, () -> x.drift(0, 7));
        Check.refuses("drift(0, -7)", Check.ARGUMENT, () -> x.drift(0, -7));
        Check.due("measure(0) behind refused drifts", x.measure(0), 0);
    }

    private static void measure() {
        Heliokeep x = Check.plant(0, 3, 4);
        Check.refuses("measure(0) by night", Check.STATE, () -> x.measure(0));
        Check.refuses("measure(2)", Check.INDEX, () -> x.measure(2));
        Check.refuses("measure(-1)", Check.INDEX, () -> x.measure(-1));
        x.drift(0, 3);
        x.correct(0, -3);
        x.drift(1, -3);
        x.correct(1, 3);
        x.pass(5);
        Check.refuses("measure(1) just before the sun", Check.STATE, () -> x.measure(1));
        x.pass(1);
        Check.refuses("measure(0) in the shade", Check.STATE, () -> x.measure(0));
        Check.due("measure(1) beside it", x.measure(1), -6);
        x.haze(9);
        Check.due("power(1, 0) without a ray", x.power(1, 0), 9);
        Check.due("measure(1) with it", x.measure(1), -6);
        x.pass(5);
        Check.due("measure(0) at noon", x.measure(0), 6);
        x.fail(0, true);
        Check.due("measure(0), broken", x.measure(0), 6);
        x.cloud(0, 3, 1, 1, 0, 0);
        Check.refuses("measure(0) below a cloud", Check.STATE, () -> x.measure(0));
        Check.due("measure(1) beside the cloud", x.measure(1), -6);
        Heliokeep late = Check.plant(17, 3);
        late.drift(0, 2);
        Check.due("measure(0) in the hour 17", late.measure(0), 2);
        late.pass(1);
        Check.refuses("measure(0) just behind the sun", Check.STATE, () -> late.measure(0));
    }

    private static void correct() {
        Heliokeep x = Check.plant(11, 3, 11);
        Check.due("correct(0, 3)", x.correct(0, 3), 0);
        Check.due("correct(0, -3)", x.correct(0, -3), 3);
        Check.due("measure(0)", x.measure(0), 3);
        Check.refuses("correct(0, 4)", Check.ARGUMENT, () -> x.correct(0, 4));
        Check.refuses("correct(0, -4)", Check.ARGUMENT, () -> x.correct(0, -4));
        Check.refuses("correct(2, 4)", Check.INDEX, () -> x.correct(2, 4));
        Check.due("mirrorIs(0, 3)", x.mirrorIs(0, 3), -3);
        Check.due("mirrorIs(1, 3)", x.mirrorIs(1, 3), 0);
        Check.due("correct(0, 0)", x.correct(0, 0), -3);
    }

    private static void aim() {
        Heliokeep x = Check.plant(11, 3, 11);
        Check.due("aim(0, 0)", x.aim(0, 0), Heliokeep.STOWED);
        Check.due("aim(0, 5)", x.aim(0, 5), 0);
        Check.due("aim(0, STOWED)", x.aim(0, Heliokeep.STOWED), 5);
        Check.due("aim(0, 2)", x.aim(0, 2), Heliokeep.STOWED);
        Check.refuses("aim(0, 6)", Check.ARGUMENT, () -> x.aim(0, 6));
        Check.refuses("aim(0, -2)", Check.ARGUMENT, () -> x.aim(0, -2));
        Check.refuses("aim(2, 6)", Check.INDEX, () -> x.aim(2, 6));
        x.fail(0, true);
        Check.refuses("aim(0, 6), broken", Check.ARGUMENT, () -> x.aim(0, 6));
        Check.refuses("aim(0, 3), broken", Check.STATE, () -> x.aim(0, 3));
        Check.refuses("aim(0, STOWED), broken", Check.STATE, () -> x.aim(0, Heliokeep.STOWED));
        Check.due("mirrorIs(0, 2)", x.mirrorIs(0, 2), 2);
        Check.due("mirrorIs(1, 2)", x.mirrorIs(1, 2), Heliokeep.STOWED);
        Check.due("aim(1, 3), another one", x.aim(1, 3), Heliokeep.STOWED);
        x.fail(0, false);
        Check.due("aim(0, 3), whole again", x.aim(0, 3), 2);
    }

    private static void fail() {
        Heliokeep x = Check.plant(11, 3, 11);
        x.aim(0, 4);
        Check.due("fail(0, false)", x.fail(0, false), false);
        Check.due("fail(0, true)", x.fail(0, true), false);
        Check.due("fail(0, true) again", x.fail(0, true), true);
        Check.due("mirrorIs(0, 4)", x.mirrorIs(0, 4), 1);
        Check.due("mirrorIs(1, 4)", x.mirrorIs(1, 4), 0);
        Check.due("mirrorIs(0, 2)", x.mirrorIs(0, 2), 4);
        Check.dueFluxes("broken", x, 0, 0, 0, 190, 570, 190);
        Check.due("fail(0, false), broken", x.fail(0, false), true);
        Check.due("mirrorIs(0, 4), whole", x.mirrorIs(0, 4), 0);
        Check.due("mirrorIs(0, 2), whole", x.mirrorIs(0, 2), 4);
        Check.refuses("fail(2, true)", Check.INDEX, () -> x.fail(2, true));
        Check.refuses("fail(-1, false)", Check.INDEX, () -> x.fail(-1, false));
    }

    private static void wash() {
        Heliokeep x = Check.plant(48, 3, 11);
        Check.refuses("wash(0) without water", Check.STATE, () -> x.wash(0));
        x.water(2);
        Check.refuses("wash(0) with too little", Check.STATE, () -> x.wash(0));
        x.water(8);
        Check.due("wash(0)", x.wash(0), 2);
        Check.due("wash(0) without dirt", x.wash(0), 0);
        Check.due("mirrorIs(0, 1)", x.mirrorIs(0, 1), 0);
        Check.due("mirrorIs(1, 1)", x.mirrorIs(1, 1), 2);
        Check.due("the water", x.plantIs(9), 4);
        x.pass(5);
        x.fail(1, true);
        Check.due("wash(1) in the hour 5, broken", x.wash(1), 2);
        x.water(2);
        x.pass(1);
        Check.refuses("wash(0) in the hour 6", Check.STATE, () -> x.wash(0));
        x.pass(11);
        Check.refuses("wash(0) in the hour 17", Check.STATE, () -> x.wash(0));
        Check.due("the water, as it was", x.plantIs(9), 3);
        x.pass(1);
        Check.due("wash(0) in the hour 18, with just enough", x.wash(0), 0);
        Check.due("no water", x.plantIs(9), 0);
        Check.refuses("wash(2)", Check.INDEX, () -> x.wash(2));
        Check.refuses("wash(-1)", Check.INDEX, () -> x.wash(-1));
    }

    private static void mirrorIs() {
        int[] cells = {0, 3, 7, 56, 63, 28};
        int[] distances = {4, 1, 5, 11, 12, 5};
        Heliokeep x = Check.plant(0, cells);
        for (int k = 0; k < cells.length; k++) {
            Check.due("the cell of " + k, x.mirrorIs(k, 0), cells[k]);
            Check.due("the distance of " + k, x.mirrorIs(k, 7), distances[k]);
        }
        x.pass(24);
        x.drift(1, 2);
        x.correct(1, -2);
        x.aim(1, 4);
        x.fail(1, true);
        x.cloud(0, 3, 1, 1, 0, 0);
        Check.dueMirror("told", x, 1, 3, 1, 4, -2, 1, 1, 0, 1);
        Check.dueMirror("not told", x, 0, 0, 1, -1, 0, 0, 0, 0, 4);
        Check.refuses("mirrorIs(0, 8)", Check.ARGUMENT, () -> x.mirrorIs(0, 8));
        Check.refuses("mirrorIs(0, -1)", Check.ARGUMENT, () -> x.mirrorIs(0, -1));
        Check.refuses("mirrorIs(6, 8)", Check.INDEX, () -> x.mirrorIs(6, 8));
        Check.refuses("mirrorIs(-1, 0)", Check.INDEX, () -> x.mirrorIs(-1, 0));
    }

    private static void shade() {
        // In a row 0, 1 and 2; 7 and 8 are no neighbours, nor are 1 and 9.
        Heliokeep x = Check.plant(0, 0, 1, 2, 7, 8, 17);
        int[] before = {1, 1, 0, 0, 0, 0};
        int[] after = {0, 1, 1, 0, 0, 0};
        x.cloud(0, 0, 1, 1, 0, 0);
        for (int tick = 0; tick < 24; tick++) {
            boolean low = Check.STRENGTHS[tick] <= 3;
            for (int k = 0; k < 6; k++) {
                int want = !low ? 0 : tick < 12 ? before[k] : after[k];
                Check.due("mirrorIs(" + k + ", 6) in the hour " + tick, x.mirrorIs(k, 6), want);
                if (want == 1) Check.due("power(" + k + ", 0) in the hour " + tick, x.power(k, 0), 0);
            }
            x.pass(1);
        }
    }

    private static void power() {
        Heliokeep x = Check.plant(0, 3);
        for (int ticks = 0; ticks < 24; ticks++) {
            Check.due("power(0, " + ticks + ")", x.power(0, ticks), Check.STRENGTHS[ticks] * 95);
        }
        x.pass(11);
        Check.due("power(0, 0) at noon", x.power(0, 0), 950);
        Check.due("power(0, 24) with more dirt", x.power(0, 24), 855);
        Check.due("power(0, 12) at midnight", x.power(0, 12), 0);
        Check.due("power(0, 19) with more dirt", x.power(0, 19), 85);
        x.haze(1);
        Check.due("power(0, 24) in haze", x.power(0, 24), 769);
        Check.refuses("power(0, 25)", Check.ARGUMENT, () -> x.power(0, 25));
        Check.refuses("power(0, -1)", Check.ARGUMENT, () -> x.power(0, -1));
        Check.refuses("power(1, 25)", Check.INDEX, () -> x.power(1, 25));

        Heliokeep far = Check.plant(33, 0, 1);
        far.haze(1);
        Check.due("divided once", far.power(0, 0), 453);
        Check.due("in the shade, of the right one", far.power(0, 21), 0);
        Check.due("not in the shade", far.power(1, 21), 1 * 9 * 8 * 17 / 20);
        Check.due("not in the shade, of the left one", far.power(0, 7), 3 * 9 * 9 * 16 / 20);
        Check.due("in the shade of the left one", far.power(1, 7), 0);
        Check.due("no shade in the hour 15", far.power(1, 6), 5 * 9 * 9 * 17 / 20);
        far.cloud(-2, 0, 1, 1, 1, 0);
        Check.due("the cloud is near", far.power(0, 1), 9 * 9 * 9 * 16 / 20);
        Check.due("the cloud is there", far.power(0, 2), 0);
        Check.due("the cloud is gone", far.power(0, 3), 10 * 9 * 9 * 16 / 20);
    }

    private static void powerBeyondTheLastTick() {
        Heliokeep x = Check.plant(9984, 3);
        Check.due("the dirt, held", x.mirrorIs(0, 1), 9);
        Check.due("power(0, 11) with all dirt", x.power(0, 11), 95);
        x.water(3);
        Check.due("wash(0)", x.wash(0), 9);
        x.pass(15);
        Check.due("the last tick", x.plantIs(0), 9999);
        Check.due("power(0, 0)", x.power(0, 0), 475);
        Check.due("power(0, 2)", x.power(0, 2), 95);
        Check.due("power(0, 20)", x.power(0, 20), 855);
        Check.due("power(0, 24)", x.power(0, 24), 427);
    }
}
