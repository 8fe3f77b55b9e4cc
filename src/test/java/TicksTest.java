/** Promises 29, 31 and 32, and the steps of a tick. */
public final class TicksTest {
    public static void main(String[] args) {
        pass();
        light();
        trip();
        saltByHeat();
        coldTankRunsEmpty();
        pipeFreezes();
        pipeThaws();
        thawBeginsAnew();
        tracedPipe();
        turbine();
        energy();
        dirtAtMidnight();
        kept();
        sumRefused();
        Check.end("TicksTest");
    }

    private static void pass() {
        Heliokeep x = new Heliokeep();
        Check.refuses("pass(0)", Check.ARGUMENT, () -> x.pass(0));
        Check.refuses("pass(49)", Check.ARGUMENT, () -> x.pass(49));
        Check.refuses("pass(-1)", Check.ARGUMENT, () -> x.pass(-1));
        Check.due("pass(1)", x.pass(1), 1);
        for (int k = 1; k <= 208; k++) Check.due("pass(48)", x.pass(48), 1 + 48 * k);
        Check.refuses("pass(48) beyond the last tick", Check.STATE, () -> x.pass(48));
        Check.refuses("pass(49) beyond the last tick", Check.ARGUMENT, () -> x.pass(49));
        Check.refuses("pass(Integer.MAX_VALUE)", Check.ARGUMENT, () -> x.pass(Integer.MAX_VALUE));
        Check.due("the tick, as it was", x.plantIs(0), 9985);
        Check.refuses("pass(15)", Check.STATE, () -> x.pass(15));
        Check.due("pass(14)", x.pass(14), 9999);
        Check.refuses("pass(1) at the end", Check.STATE, () -> x.pass(1));
    }

    private static void light() {
        Heliokeep x = Check.plant(11, 3, 11);
        x.pass(1);
        Check.dueSums("stowed", x, 0, 0, 0, 0, 0, 0, 0, 0, 0, 0, 0, 0, 0);
        x.aim(0, 5);
        x.pass(1);
        Check.dueSums("some is missed", x, 950, 190, 0, 760, 760, 0, 0, 0, 0, 0, 0, 0, 0);
        x.aim(1, 2);
        x.fail(1, true);
        x.drift(0, 2);
        x.pass(1);
        Check.dueSums("a broken one shines", x, 950 + 850 + 810, 190 + 850, 0, 1570, 1570, 0, 0, 0, 0, 0, 0, 0, 0);
        Check.due("no trip", x.plantIs(10), 0);
    }

    private static void trip() {
        Heliokeep x = Check.plant(11, 3, 11, 19);
        x.pipe(true);
        x.aim(0, 5);
        x.aim(1, 2);
        x.fail(1, true);
        x.bound(5, 569);
        x.bound(4, 189);
        x.pass(1);
        Check.dueSums("tripped", x, 1850, 190, 1660, 0, 0, 0, 0, 0, 0, 0, 0, 0, 0);
        Check.due("one trip for two panels", x.plantIs(10), 1);
        Check.due("strain(5)", x.strain(5), 1);
        Check.due("strain(4)", x.strain(4), 1);
        Check.due("strain(2)", x.strain(2), 0);
        Check.due("stowed", x.mirrorIs(0, 2), Heliokeep.STOWED);
        Check.due("broken, it keeps its aim", x.mirrorIs(1, 2), 2);
        Check.due("no salt came", x.plantIs(4), 28);
        Check.due("no salt in the hot tank", x.plantIs(3), 0);
        x.pass(1);
        Check.dueSums("the broken one alone", x, 2750, 190, 1660, 900, 0, 9, 0, 0, 0, 0, 0, 0, 0);
        x.fail(1, false);
        x.bound(2, 0);
        x.pass(1);
        Check.dueSums("tripped again", x, 3560, 190, 2470, 900, 0, 9, 0, 0, 0, 0, 0, 0, 0);
        Check.due("two trips", x.plantIs(10), 2);
        Check.due("strain(2) then", x.strain(2), 1);
        Check.due("whole, it is stowed", x.mirrorIs(1, 2), Heliokeep.STOWED);
        x.pass(2);
        Check.due("no more trips", x.plantIs(10), 2);
    }

    private static void saltByHeat() {
        Heliokeep x = Check.plant(11, 3);
        x.aim(0, 2);
        x.pass(1);
        Check.dueSums("an empty pipe", x, 950, 0, 0, 950, 950, 0, 0, 0, 0, 0, 0, 0, 0);
        x.pipe(true);
        x.pass(1);
        Check.dueSums("a filled pipe", x, 1900, 0, 0, 1900, 1000, 9, 0, 0, 0, 0, 0, 0, 0);
        Check.due("degrees", x.plantIs(4), 35);
        x.pass(1);
        Check.due("degrees, once more", x.plantIs(4), 40);
        x.pass(1);
        Check.due("degrees, at most", x.plantIs(4), 40);
        Check.due("the cold tank", x.plantIs(2), 100 - 9 - 8 - 6);
        Check.due("the hot tank", x.plantIs(3), 9 + 8 + 6);
        // 95 are less than a unit needs.
        x.pass(2);
        Check.due("degrees in the hour 17", x.plantIs(4), 40);
        x.pass(1);
        Check.due("no salt, colder", x.plantIs(4), 38);
        Check.due("the units", x.sum(5), 9 + 8 + 6 + 4 + 2);
        Check.due("the dumped heat", x.sum(4), 950 + 50 + 50 + 60 + 70 + 80 + 90);
    }

    private static void coldTankRunsEmpty() {
        Heliokeep x = Check.plant(11, 2, 3, 4, 11);
        for (int k = 0; k < 4; k++) x.aim(k, k + 1);
        x.pipe(true);
        x.pass(2);
        Check.due("cold", x.plantIs(2), 28);
        x.pass(1);
        Check.due("all of it", x.plantIs(2), 0);
        Check.due("hot", x.plantIs(3), 100);
        Check.due("the dumped heat", x.sum(4), 50 + 50 + 3280 - 2800);
        Check.due("degrees", x.plantIs(4), 40);
        x.pass(1);
        Check.due("no salt, no warmth", x.plantIs(4), 38);
        Check.due("the units", x.sum(5), 100);
        x.salt(1);
        x.pass(1);
        Check.due("a unit is enough", x.plantIs(4), 40);
        Check.due("hot, 101", x.plantIs(3), 101);
    }

    private static void pipeFreezes() {
        Heliokeep x = Check.plant(0, 3);
        x.pipe(true);
        int[] degrees = {28, 26, 24, 22, 20, 18, 18, 18};
        for (int tick = 0; tick < 8; tick++) {
            x.pass(1);
            Check.due("degrees", x.plantIs(4), degrees[tick]);
            Check.due("what it is", x.plantIs(5), tick < 5 ? Heliokeep.FILLED : Heliokeep.PLUGGED);
        }
        x.aim(0, 2);
        x.pass(1);
        Check.dueSums("plugged, all is dumped", x, 470, 0, 0, 470, 470, 0, 0, 0, 0, 0, 0, 0, 0);
        Check.due("cold", x.plantIs(2), 100);
    }

    private static void pipeThaws() {
        Heliokeep x = Check.plant(0, 3);
        x.pipe(true);
        x.pass(8);
        x.aim(0, 2);
        x.trace(true);
        for (int tick = 1; tick <= 3; tick++) {
            x.pass(1);
            Check.due("thaw " + tick, x.plantIs(5), tick < 3 ? Heliokeep.PLUGGED : Heliokeep.FILLED);
            Check.due("degrees " + tick, x.plantIs(4), tick < 3 ? 18 : 22);
        }
        Check.due("no salt came meanwhile", x.plantIs(3), 0);
        x.pass(1);
        Check.due("salt comes", x.plantIs(3), 9);
        Check.due("degrees", x.plantIs(4), 27);
        x.trace(false);
        x.aim(0, Heliokeep.STOWED);
        x.pass(4);
        Check.due("19 degrees", x.plantIs(4), 19);
        Check.due("plugged again", x.plantIs(5), Heliokeep.PLUGGED);
        x.trace(true);
        x.pass(2);
        Check.due("not thawed yet", x.plantIs(5), Heliokeep.PLUGGED);
        x.pass(1);
        Check.due("thawed", x.plantIs(5), Heliokeep.FILLED);
    }

    private static void thawBeginsAnew() {
        Heliokeep x = new Heliokeep();
        x.pipe(true);
        x.pass(6);
        x.trace(true);
        x.pass(2);
        x.trace(false);
        x.pass(1);
        x.trace(true);
        x.pass(2);
        Check.due("plugged", x.plantIs(5), Heliokeep.PLUGGED);
        x.pass(1);
        Check.due("thawed", x.plantIs(5), Heliokeep.FILLED);
        x.pass(5);
        Check.due("kept warm", x.plantIs(4), 22);
        x.trace(false);
        x.pass(1);
        Check.due("colder", x.plantIs(4), 20);
        x.pass(1);
        Check.due("plugged again", x.plantIs(5), Heliokeep.PLUGGED);
        x.trace(true);
        x.pass(2);
        Check.due("the thaw was 0", x.plantIs(5), Heliokeep.PLUGGED);
    }

    private static void tracedPipe() {
        Heliokeep x = new Heliokeep();
        x.trace(true);
        x.pass(1);
        Check.due("empty, no degrees", x.plantIs(4), 0);
        x.pipe(true);
        int[] degrees = {28, 26, 24, 22, 22, 22};
        for (int tick = 0; tick < 6; tick++) {
            x.pass(1);
            Check.due("degrees", x.plantIs(4), degrees[tick]);
            Check.due("filled", x.plantIs(5), Heliokeep.FILLED);
        }
        Check.due("bought, whatever the pipe is", x.sum(8), 14);

        Heliokeep late = new Heliokeep();
        late.pipe(true);
        late.pass(5);
        late.trace(true);
        late.pass(1);
        Check.due("just in time", late.plantIs(4), 22);
    }

    private static void turbine() {
        Heliokeep x = Check.plant(10, 3);
        x.aim(0, 2);
        x.pipe(true);
        x.load(7);
        x.pass(2);
        Check.due("nothing yet", x.sum(6), 0);
        Check.due("runs", x.plantIs(7), Heliokeep.RUNS);
        Check.due("the hot tank", x.plantIs(3), 8 + 9);
        x.pass(1);
        Check.due("made in the hour 12", x.sum(6), 7 * 8);
        Check.due("hot", x.plantIs(3), 17 + 9 - 7);
        Check.due("cold", x.plantIs(2), 100 - 26 + 7);
        x.load(20);
        x.pass(1);
        Check.due("made in the hour 13", x.sum(6), 56 + 20 * 9);
        Check.due("hot, seven left", x.plantIs(3), 19 + 8 - 20);
        x.pass(1);
        Check.due("all, with what came just now", x.sum(6), 236 + 13 * 9);
        Check.due("none left", x.plantIs(3), 0);
        Check.due("all in the cold tank", x.plantIs(2), 100);
        x.load(3);
        x.pass(1);
        Check.due("made in the hour 15", x.sum(6), 353 + 3 * 9);
        x.pass(1);
        Check.due("made in the hour 16", x.sum(6), 380 + 3 * 10);
        x.pass(1);
        Check.due("without salt nothing", x.sum(6), 410);
        x.salt(1);
        x.pass(1);
        Check.due("the cold salt is not taken", x.sum(6), 410);
    }

    /** Runs with a load of 3 from the hour 18 on, with 30 units in the hot tank or more: 30 are made in each tick. */
    private static Heliokeep evening() {
        Heliokeep x = Check.plant(9, 3);
        x.aim(0, 2);
        x.pipe(true);
        x.pass(7);
        x.aim(0, Heliokeep.STOWED);
        x.pass(1);
        x.pipe(false);
        x.load(3);
        x.pass(2);
        return x;
    }

    private static void energy() {
        Heliokeep x = evening();
        Check.due("the tick", x.plantIs(0), 19);
        long light = x.sum(0);
        long dumped = x.sum(4);
        long units = x.sum(5);
        x.price(19, 2);
        x.price(20, 3);
        x.price(21, 5);
        x.price(22, 7);
        x.price(23, 11);
        x.firm(20, 10);
        x.firm(21, 40);
        x.firm(22, 28);
        x.firm(23, 29);
        x.pass(1);
        Check.dueSums("all is sold", x, light, 0, 0, light, dumped, units, 30, 0, 0, 0, 0, 30, 60);
        x.pass(1);
        Check.dueSums("firm first", x, light, 0, 0, light, dumped, units, 60, 0, 0, 10, 0, 50, 120);
        x.pass(1);
        Check.dueSums("too little", x, light, 0, 0, light, dumped, units, 90, 0, 0, 40, 10, 50, 120);
        x.trace(true);
        x.pass(1);
        Check.dueSums("trace ahead of firm", x, light, 0, 0, light, dumped, units, 120, 2, 0, 68, 10, 50, 120);
        x.pass(1);
        Check.dueSums("one is short", x, light, 0, 0, light, dumped, units, 150, 4, 0, 96, 11, 50, 120);
        x.stop();
        x.firm(0, 3);
        x.price(0, 99);
        x.pass(1);
        Check.dueSums("bought", x, light, 0, 0, light, dumped, units, 150, 6, 2, 96, 14, 50, 120);

        Heliokeep little = Check.plant(9, 3);
        little.aim(0, 2);
        little.bound(2, 9999);
        little.pipe(true);
        little.haze(8);
        little.pass(1);
        little.aim(0, Heliokeep.STOWED);
        little.pipe(false);
        Check.due("one unit", little.plantIs(3), 1);
        little.load(20);
        little.trace(true);
        little.firm(12, 7);
        little.price(12, 13);
        little.pass(3);
        Check.dueSums("one unit of eight", little, 130, 0, 0, 130, 30, 1, 8, 6, 4, 6, 1, 0, 0);
    }

    private static void dirtAtMidnight() {
        Heliokeep x = Check.plant(23, 3, 63);
        Check.due("none yet", x.mirrorIs(0, 1), 0);
        x.pass(1);
        Check.due("one at midnight", x.mirrorIs(0, 1), 1);
        x.pass(23);
        Check.due("one all day", x.mirrorIs(0, 1), 1);
        x.water(3);
        x.wash(0);
        x.pass(1);
        Check.due("one again", x.mirrorIs(0, 1), 1);
        Check.due("two", x.mirrorIs(1, 1), 2);
        for (int day = 3; day < 13; day++) {
            x.pass(24);
            Check.due("day " + day, x.mirrorIs(1, 1), Math.min(9, day));
            Check.due("day " + day + ", washed", x.mirrorIs(0, 1), Math.min(9, day - 1));
        }
    }

    private static void kept() {
        Heliokeep x = Check.plant(11, 3);
        x.aim(0, 2);
        Check.due("no heat", x.kept(), 0.0f);
        x.pass(1);
        Check.due("all dumped", x.kept(), 0.0f);
        x.pipe(true);
        x.pass(1);
        Check.due("a part", x.kept(), 900f / 1900f);
        x.haze(8);
        x.pass(1);
        Check.due("a part, later", x.kept(), 1000f / 2070f);

        Heliokeep all = Check.plant(9, 59);
        all.aim(0, 2);
        all.haze(5);
        all.pipe(true);
        all.pass(1);
        Check.due("a part of little", all.kept(), 200f / 210f);
        Heliokeep none = Check.plant(11, 3);
        none.bound(2, 0);
        none.aim(0, 2);
        none.pass(1);
        Check.due("a trip is no heat", none.kept(), 0.0f);
    }

    private static void sumRefused() {
        Heliokeep x = new Heliokeep();
        Check.refuses("sum(13)", Check.ARGUMENT, () -> x.sum(13));
        Check.refuses("sum(-1)", Check.ARGUMENT, () -> x.sum(-1));
    }
}
