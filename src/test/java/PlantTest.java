/** Promises 21 to 28 and 30. */
public final class PlantTest {
    public static void main(String[] args) {
        salt();
        pipe();
        trace();
        load();
        stop();
        water();
        pricesAndFirmAmounts();
        plantIs();
        Check.end("PlantTest");
    }

    private static void salt() {
        Heliokeep x = new Heliokeep();
        Check.refuses("salt(0)", Check.ARGUMENT, () -> x.salt(0));
        Check.refuses("salt(501)", Check.ARGUMENT, () -> x.salt(501));
        Check.refuses("salt(MIN)", Check.ARGUMENT, () -> x.salt(Integer.MIN_VALUE));
        Check.due("salt(1)", x.salt(1), 101);
        Check.due("salt(500)", x.salt(500), 601);
        Check.refuses("salt(400)", Check.STATE, () -> x.salt(400));
        Check.refuses("salt(501), too much too", Check.ARGUMENT, () -> x.salt(501));
        Check.due("salt(399)", x.salt(399), 1000);
        Check.refuses("salt(1)", Check.STATE, () -> x.salt(1));
        Check.due("the cold tank", x.plantIs(2), 1000);

        Heliokeep both = Check.plant(11, 3);
        both.aim(0, 2);
        both.pipe(true);
        both.pass(1);
        Check.due("the hot tank", both.plantIs(3), 9);
        both.salt(500);
        Check.refuses("salt(401) with both tanks", Check.STATE, () -> both.salt(401));
        Check.due("salt(400) with both tanks", both.salt(400), 991);
    }

    private static void pipe() {
        Heliokeep x = new Heliokeep();
        Check.refuses("pipe(false), empty", Check.STATE, () -> x.pipe(false));
        Check.due("pipe(true)", x.pipe(true), 30);
        Check.due("filled", x.plantIs(5), Heliokeep.FILLED);
        Check.due("degrees", x.plantIs(4), 30);
        Check.refuses("pipe(true), filled", Check.STATE, () -> x.pipe(true));
        x.pass(1);
        Check.due("colder", x.plantIs(4), 28);
        Check.due("pipe(false)", x.pipe(false), 0);
        Check.due("empty", x.plantIs(5), Heliokeep.EMPTY);
        Check.due("no degrees", x.plantIs(4), 0);
        x.pass(10);
        Check.due("still empty", x.plantIs(5), Heliokeep.EMPTY);
        Check.due("pipe(true) again", x.pipe(true), 30);
        x.pass(6);
        Check.due("plugged", x.plantIs(5), Heliokeep.PLUGGED);
        Check.refuses("pipe(true), plugged", Check.STATE, () -> x.pipe(true));
        Check.refuses("pipe(false), plugged", Check.STATE, () -> x.pipe(false));
        Check.due("degrees, plugged", x.plantIs(4), 18);
    }

    private static void trace() {
        Heliokeep x = new Heliokeep();
        Check.due("trace(true)", x.trace(true), false);
        Check.due("plantIs(6)", x.plantIs(6), 1);
        Check.due("trace(true) again", x.trace(true), true);
        x.pass(1);
        Check.due("trace(false)", x.trace(false), true);
        Check.due("plantIs(6), none", x.plantIs(6), 0);
        x.pass(1);
        Check.due("trace(false) again", x.trace(false), false);
        Check.due("one tick with it", x.sum(7), 2);
    }

    private static void load() {
        Heliokeep x = new Heliokeep();
        Check.refuses("load(0)", Check.ARGUMENT, () -> x.load(0));
        Check.refuses("load(21)", Check.ARGUMENT, () -> x.load(21));
        Check.due("still", x.plantIs(7), Heliokeep.STILL);
        Check.due("load(1)", x.load(1), 0);
        Check.due("warming", x.plantIs(7), Heliokeep.WARMING);
        x.pass(1);
        Check.due("warming on", x.plantIs(7), Heliokeep.WARMING);
        Check.due("load(20), warming", x.load(20), 1);
        x.pass(1);
        Check.due("runs", x.plantIs(7), Heliokeep.RUNS);
        Check.due("load(7), running", x.load(7), 20);
        Check.due("runs on", x.plantIs(7), Heliokeep.RUNS);
        Check.due("the load", x.plantIs(8), 7);
        Check.refuses("load(21), running", Check.ARGUMENT, () -> x.load(21));
        Check.due("load(8)", x.load(8), 7);
    }

    private static void stop() {
        Heliokeep x = new Heliokeep();
        Check.refuses("stop(), still", Check.STATE, () -> x.stop());
        x.load(5);
        Check.due("stop(), warming", x.stop(), Heliokeep.WARMING);
        Check.due("still", x.plantIs(7), Heliokeep.STILL);
        Check.due("no load", x.plantIs(8), 0);
        Check.refuses("stop() again", Check.STATE, () -> x.stop());
        Check.due("load(6)", x.load(6), 0);
        x.pass(1);
        x.stop();
        x.load(9);
        x.pass(1);
        Check.due("warming anew", x.plantIs(7), Heliokeep.WARMING);
        x.pass(1);
        Check.due("stop(), running", x.stop(), Heliokeep.RUNS);
        Check.due("still again", x.plantIs(7), Heliokeep.STILL);
        x.pass(3);
        Check.due("and stays so", x.plantIs(7), Heliokeep.STILL);
        Check.due("load(3)", x.load(3), 0);
    }

    private static void water() {
        Heliokeep x = new Heliokeep();
        Check.refuses("water(0)", Check.ARGUMENT, () -> x.water(0));
        Check.refuses("water(501)", Check.ARGUMENT, () -> x.water(501));
        Check.due("water(1)", x.water(1), 1);
        Check.due("water(500)", x.water(500), 501);
        Check.refuses("water(500), too much", Check.STATE, () -> x.water(500));
        Check.refuses("water(501), too much too", Check.ARGUMENT, () -> x.water(501));
        Check.due("water(499)", x.water(499), 1000);
        Check.refuses("water(1)", Check.STATE, () -> x.water(1));
        Check.due("the water", x.plantIs(9), 1000);
    }

    private static void pricesAndFirmAmounts() {
        Heliokeep x = new Heliokeep();
        for (int hour = 0; hour < 24; hour++) {
            Check.due("price", x.price(hour, 99 - hour), 0);
            Check.due("firm", x.firm(hour, 200 - hour), 0);
        }
        Check.refuses("price(24, 100)", Check.INDEX, () -> x.price(24, 100));
        Check.refuses("price(-1, 0)", Check.INDEX, () -> x.price(-1, 0));
        Check.refuses("price(0, 100)", Check.ARGUMENT, () -> x.price(0, 100));
        Check.refuses("price(0, -1)", Check.ARGUMENT, () -> x.price(0, -1));
        Check.refuses("firm(24, 201)", Check.INDEX, () -> x.firm(24, 201));
        Check.refuses("firm(-1, 0)", Check.INDEX, () -> x.firm(-1, 0));
        Check.refuses("firm(0, 201)", Check.ARGUMENT, () -> x.firm(0, 201));
        Check.refuses("firm(0, -1)", Check.ARGUMENT, () -> x.firm(0, -1));
        for (int hour = 0; hour < 24; hour++) {
            Check.due("price before", x.price(hour, 0), 99 - hour);
            Check.due("firm before", x.firm(hour, 0), 200 - hour);
        }
    }

    private static void plantIs() {
        Heliokeep x = Check.plant(11, 3);
        x.aim(0, 2);
        x.pipe(true);
        x.trace(true);
        x.load(4);
        x.water(7);
        Check.duePlant("told", x, 11, 10, 100, 0, 30, Heliokeep.FILLED, 1, Heliokeep.WARMING, 4, 7, 0);
        x.pass(2);
        Check.duePlant("runs", x, 13, 9, 82, 18, 40, Heliokeep.FILLED, 1, Heliokeep.RUNS, 4, 7, 0);
        x.bound(2, 0);
        x.pass(1);
        Check.duePlant("tripped", x, 14, 7, 86, 14, 38, Heliokeep.FILLED, 1, Heliokeep.RUNS, 4, 7, 1);
        int[] strengths = {7, 5, 3, 1, 0, 0, 0, 0, 0, 0, 0, 0, 0, 0, 0, 0, 1, 3, 5, 7, 9, 10, 10, 9, 7};
        for (int strength : strengths) {
            Check.due("the strength", x.plantIs(1), strength);
            x.pass(1);
        }
        Check.refuses("plantIs(11)", Check.ARGUMENT, () -> x.plantIs(11));
        Check.refuses("plantIs(-1)", Check.ARGUMENT, () -> x.plantIs(-1));
    }
}
