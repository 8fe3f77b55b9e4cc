/** The edges that the part "The rest of the plant" names, and those of promises 21 to 28 and 30 to 32. */
public final class RestEdgesTest {
    public static void main(String[] args) {
        atMostAThousandInBothTanks();
        saltStaysAsMuch();
        atMostAThousandOfWater();
        pipeByItsState();
        traceByItself();
        loadOfTheTurbine();
        stopInEachState();
        hoursOfPricesAndFirmAmounts();
        hazeHeld();
        brokenOrNot();
        keptAtItsEdges();
        sumsClose();
        atTheLastTick();
        Check.end("RestEdgesTest");
    }

    /** 100 units in the cold tank at first, none in the hot one, at most 1000 in both; 1 to 500 are brought. */
    private static void atMostAThousandInBothTanks() {
        Heliokeep x = new Heliokeep();
        Check.due("salt(500)", x.salt(500), 600);
        Check.refuses("salt(401), above by one", Check.STATE, () -> x.salt(401));
        Check.due("salt(400), up to it", x.salt(400), 1000);
        Check.refuses("salt(1)", Check.STATE, () -> x.salt(1));
        Check.refuses("salt(500)", Check.STATE, () -> x.salt(500));
        Check.refuses("salt(0), full", Check.ARGUMENT, () -> x.salt(0));
        Check.refuses("salt(501), full", Check.ARGUMENT, () -> x.salt(501));
        Check.due("cold", x.plantIs(2), 1000);
        Check.due("hot", x.plantIs(3), 0);

        Heliokeep both = Check.plant(11, 3);
        both.aim(0, 2);
        both.pipe(true);
        both.pass(1);
        Check.due("salt(500) with nine in the hot one", both.salt(500), 591);
        Check.refuses("salt(401) with nine in the hot one", Check.STATE, () -> both.salt(401));
        Check.due("salt(399), below by one", both.salt(399), 990);
        Check.refuses("salt(2)", Check.STATE, () -> both.salt(2));
        Check.due("salt(1), up to it", both.salt(1), 991);
        Check.refuses("salt(1), full", Check.STATE, () -> both.salt(1));
        both.pass(1);
        Check.refuses("salt(1), with other shares", Check.STATE, () -> both.salt(1));
        Check.due("the cold tank has less", both.plantIs(2), 982);
        Check.due("the hot one has more", both.plantIs(3), 18);
    }

    private static void saltStaysAsMuch() {
        Heliokeep x = Check.plant(9, 3, 11);
        x.salt(317);
        x.aim(0, 2);
        x.aim(1, 3);
        x.pipe(true);
        x.load(13);
        for (int tick = 0; tick < 60; tick++) {
            x.pass(1);
            Check.due("in both tanks", x.plantIs(2) + x.plantIs(3), 417);
        }
    }

    /** No water at first, at most 1000; 1 to 500 are brought. */
    private static void atMostAThousandOfWater() {
        Heliokeep x = Check.plant(0, 3);
        Check.due("water(500)", x.water(500), 500);
        Check.due("water(499)", x.water(499), 999);
        Check.refuses("water(2), above by one", Check.STATE, () -> x.water(2));
        Check.due("water(1), up to it", x.water(1), 1000);
        Check.refuses("water(1), full", Check.STATE, () -> x.water(1));
        Check.refuses("water(0), full", Check.ARGUMENT, () -> x.water(0));
        Check.refuses("water(501), full", Check.ARGUMENT, () -> x.water(501));
        x.wash(0);
        Check.refuses("water(4), behind a wash", Check.STATE, () -> x.water(4));
        Check.due("water(3), behind a wash", x.water(3), 1000);
        x.pass(48);
        Check.due("it stays", x.plantIs(9), 1000);
    }

    /** Filled it has 30 degrees, empty none; it throws if it is so already, or PLUGGED. */
    private static void pipeByItsState() {
        Heliokeep x = new Heliokeep();
        for (int round = 0; round < 3; round++) {
            Check.refuses("pipe(false), empty", Check.STATE, () -> x.pipe(false));
            Check.due("pipe(true)", x.pipe(true), 30);
            Check.refuses("pipe(true), filled", Check.STATE, () -> x.pipe(true));
            x.pass(2);
            Check.refuses("pipe(true), filled for two ticks", Check.STATE, () -> x.pipe(true));
            Check.due("the degrees stay", x.plantIs(4), 26);
            Check.due("pipe(false)", x.pipe(false), 0);
            Check.due("plantIs(4)", x.plantIs(4), 0);
            Check.due("plantIs(5)", x.plantIs(5), Heliokeep.EMPTY);
        }
        x.pipe(true);
        x.pass(5);
        Check.due("20 degrees, filled", x.plantIs(5), Heliokeep.FILLED);
        Check.due("it can run empty", x.pipe(false), 0);
        x.pipe(true);
        x.pass(6);
        Check.refuses("pipe(true), plugged", Check.STATE, () -> x.pipe(true));
        Check.refuses("pipe(false), plugged", Check.STATE, () -> x.pipe(false));
        Check.due("plugged, its degrees", x.plantIs(4), 18);
        x.trace(true);
        x.pass(3);
        Check.refuses("pipe(true), thawed", Check.STATE, () -> x.pipe(true));
        Check.due("pipe(false), thawed", x.pipe(false), 0);
    }

    /** TRACE heating takes 2 whatever the pipe is, and of nothing at once. */
    private static void traceByItself() {
        Heliokeep x = new Heliokeep();
        Check.due("plantIs(6) at first", x.plantIs(6), 0);
        Check.due("at first", x.trace(true), false);
        Check.due("plantIs(6)", x.plantIs(6), 1);
        Check.due("nothing taken yet", x.sum(7), 0);
        x.pass(1);
        Check.due("empty", x.sum(7), 2);
        x.pipe(true);
        x.pass(1);
        Check.due("filled", x.sum(7), 4);
        Check.due("trace(false)", x.trace(false), true);
        x.pass(10);
        Check.due("without it", x.sum(7), 4);
        Check.due("plugged", x.plantIs(5), Heliokeep.PLUGGED);
        x.trace(true);
        x.pass(1);
        Check.due("plugged, with it", x.sum(7), 6);
        Check.due("all of it bought", x.sum(8), 6);
        Check.due("told twice", x.trace(true), true);
        x.pass(1);
        Check.due("it is not more", x.sum(7), 8);
    }

    /** The LOAD is 1 to 20; the one before is 0 if it was STILL. */
    private static void loadOfTheTurbine() {
        Heliokeep x = new Heliokeep();
        int before = 0;
        for (int load = 1; load <= 20; load++) {
            Check.due("load(" + load + ")", x.load(load), before);
            Check.due("plantIs(8)", x.plantIs(8), load);
            before = load;
        }
        Check.due("told often, warming", x.plantIs(7), Heliokeep.WARMING);
        x.pass(1);
        Check.due("load(20) again", x.load(20), 20);
        x.pass(1);
        Check.due("it was not started anew", x.plantIs(7), Heliokeep.RUNS);
        for (int wrong : new int[] {0, 21, -1}) {
            Check.refuses("load(" + wrong + ")", Check.ARGUMENT, () -> x.load(wrong));
            Check.due("the load stays", x.plantIs(8), 20);
        }
        Check.due("load(1), running", x.load(1), 20);
        Check.due("it runs on", x.plantIs(7), Heliokeep.RUNS);
        x.stop();
        for (int wrong : new int[] {0, 21}) {
            Check.refuses("load(" + wrong + "), still", Check.ARGUMENT, () -> x.load(wrong));
            Check.due("it is not started", x.plantIs(7), Heliokeep.STILL);
        }
        Check.due("load(5), still", x.load(5), 0);
        Check.due("started", x.plantIs(7), Heliokeep.WARMING);
    }

    private static void stopInEachState() {
        Heliokeep x = new Heliokeep();
        int[] ticks = {0, 1, 2, 3};
        int[] states = {Heliokeep.WARMING, Heliokeep.WARMING, Heliokeep.RUNS, Heliokeep.RUNS};
        for (int k = 0; k < 4; k++) {
            Check.refuses("stop(), still", Check.STATE, () -> x.stop());
            x.load(9);
            if (ticks[k] > 0) x.pass(ticks[k]);
            Check.due("stop() behind " + ticks[k], x.stop(), states[k]);
            Check.due("still", x.plantIs(7), Heliokeep.STILL);
            Check.due("no load", x.plantIs(8), 0);
        }
    }

    /** Prices are 0 to 99, FIRM amounts 0 to 200, all 0 at first; each HOUR has its own. */
    private static void hoursOfPricesAndFirmAmounts() {
        Heliokeep x = new Heliokeep();
        int[] prices = {99, 0, 1, 98};
        int[] firms = {200, 0, 1, 199};
        int[] hours = {0, 23, 11, 12};
        int priceBefore = 0;
        int firmBefore = 0;
        for (int k = 0; k < 4; k++) {
            for (int hour : hours) {
                Check.due("price(" + hour + ", " + prices[k] + ")", x.price(hour, prices[k]), priceBefore);
                Check.due("firm(" + hour + ", " + firms[k] + ")", x.firm(hour, firms[k]), firmBefore);
            }
            priceBefore = prices[k];
            firmBefore = firms[k];
        }
        for (int hour : new int[] {1, 10, 13, 22}) {
            Check.due("another hour's price", x.price(hour, 0), 0);
            Check.due("another hour's firm amount", x.firm(hour, 0), 0);
        }
        x.pass(48);
        Check.due("the price stays", x.price(0, 0), 98);
        Check.due("the firm amount stays", x.firm(23, 0), 199);
        Check.due("all was short, twice", x.sum(10), 2 * 4 * 199);
    }

    /** The HAZE is 0 to 9, 0 at first. */
    private static void hazeHeld() {
        Heliokeep x = Check.plant(11, 3);
        Check.due("haze(9)", x.haze(9), 0);
        Check.refuses("haze(10)", Check.ARGUMENT, () -> x.haze(10));
        Check.refuses("haze(-1)", Check.ARGUMENT, () -> x.haze(-1));
        Check.due("the power stays", x.power(0, 0), 95);
        x.pass(48);
        Check.due("the haze stays", x.haze(0), 9);
        Check.refuses("haze(10), without haze", Check.ARGUMENT, () -> x.haze(10));
        Check.due("haze(0)", x.haze(0), 0);
    }

    /** A BROKEN one keeps its aim, be it STOWED; all else can be told of it. */
    private static void brokenOrNot() {
        Heliokeep x = Check.plant(11, 3, 11);
        Check.due("fail(1, true)", x.fail(1, true), false);
        for (int aim = -1; aim < 6; aim++) {
            int told = aim;
            Check.refuses("aim(1, " + aim + ")", Check.STATE, () -> x.aim(1, told));
        }
        Check.refuses("aim(1, 6)", Check.ARGUMENT, () -> x.aim(1, 6));
        Check.refuses("aim(1, -2)", Check.ARGUMENT, () -> x.aim(1, -2));
        Check.refuses("aim(2, 0)", Check.INDEX, () -> x.aim(2, 0));
        Check.due("stowed", x.mirrorIs(1, 2), Heliokeep.STOWED);
        x.drift(1, 2);
        Check.due("correct(1, 1)", x.correct(1, 1), 0);
        Check.due("measure(1)", x.measure(1), 1);
        Check.due("power(1, 0)", x.power(1, 0), 900);
        Check.due("fail(1, true) again", x.fail(1, true), true);
        Check.due("fail(1, false)", x.fail(1, false), true);
        Check.due("fail(1, false) again", x.fail(1, false), false);
        Check.due("aim(1, 5)", x.aim(1, 5), Heliokeep.STOWED);
        Check.due("aim(1, 5) again", x.aim(1, 5), 5);
        for (boolean is : new boolean[] {true, true, false, false}) {
            x.fail(1, is);
            Check.due("the aim stays", x.mirrorIs(1, 2), 5);
            Check.due("whether it is broken", x.mirrorIs(1, 4), is ? 1 : 0);
        }
    }

    /** 0.0f without HEAT, and with all of it DUMPED; 1.0f with none; floats are divided. */
    private static void keptAtItsEdges() {
        Heliokeep x = Check.plant(11, 3, 57);
        Check.due("without heat", x.kept(), 0.0f);
        x.aim(0, 2);
        x.aim(1, 0);
        x.drift(1, -1);
        x.haze(9);
        x.bound(2, 0);
        x.pass(1);
        Check.due("behind a trip", x.kept(), 0.0f);
        x.bound(2, 3000);
        x.aim(0, 2);
        x.aim(1, 0);
        x.pipe(true);
        x.pass(1);
        Check.due("none dumped", x.sum(4), 0);
        Check.due("some heat", x.sum(3), 100);
        Check.due("all was kept", x.kept(), 1.0f);
        x.pipe(false);
        x.pass(1);
        Check.due("a part of it", x.kept(), 100f / (float) x.sum(3));
        Heliokeep none = Check.plant(11, 3);
        none.aim(0, 2);
        none.pass(3);
        Check.due("nothing was kept", none.kept(), 0.0f);
        Heliokeep third = Check.plant(9, 3, 11);
        third.aim(0, 2);
        third.aim(1, 2);
        third.pipe(true);
        for (int tick = 0; tick < 30; tick++) {
            third.pass(1);
            float want = (float) (third.sum(3) - third.sum(4)) / (float) third.sum(3);
            Check.due("kept() behind " + tick, third.kept(), want);
        }
    }

    /** The light is missed, lost by trips or heat; heat is dumped or in the salt; energy is used or sold. */
    private static void sumsClose() {
        for (Plant plant : Plant.values()) {
            if (plant == Plant.LAST) continue;
            Heliokeep x = plant.make();
            for (int day = 0; day < 3; day++) {
                for (int mirror = 0; mirror < plant.mirrors(); mirror++) {
                    if (x.mirrorIs(mirror, 4) == 0) x.aim(mirror, mirror % 6);
                }
                x.pass(24);
                String state = plant + ", day " + day;
                Check.due(state + ": light", x.sum(0), x.sum(1) + x.sum(2) + x.sum(3));
                Check.due(state + ": heat", x.sum(3), x.sum(4) + 100 * x.sum(5));
                Check.due(state + ": energy", x.sum(6) + x.sum(8), x.sum(7) + x.sum(9) + x.sum(11));
            }
        }
    }

    /** All but pass() can be told at the last TICK too. */
    private static void atTheLastTick() {
        Heliokeep x = Plant.LAST.make();
        Check.due("the tick", x.plantIs(0), 9999);
        Check.due("mirror(20)", x.mirror(20), 2);
        Check.due("measure(1)", x.measure(1), 3);
        Check.due("correct(1, 3)", x.correct(1, 3), 0);
        Check.due("aim(1, 2)", x.aim(1, 2), Heliokeep.STOWED);
        Check.dueFluxes("dirty mirrors", x, 0, 16, 48, 16, 0, 0);
        Check.due("best(7, NONE)", x.best(7, Heliokeep.NONE), 40 + 40 + 400);
        Check.due("cloud(0, 3, 1, 1, 1, 1)", x.cloud(0, 3, 1, 1, 1, 1), 1);
        Check.due("mirrorIs(0, 5)", x.mirrorIs(0, 5), 1);
        Check.due("salt(500)", x.salt(500), 600);
        Check.due("stop()", x.stop(), Heliokeep.RUNS);
        Check.due("price(15, 9)", x.price(15, 9), 0);
        x.water(3);
        Check.refuses("wash(0) in the hour 15", Check.STATE, () -> x.wash(0));
        Check.refuses("pass(1)", Check.STATE, () -> x.pass(1));
    }
}
