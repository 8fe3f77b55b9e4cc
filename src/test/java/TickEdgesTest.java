import java.util.List;

/** The edges that the part "A tick" names, step by step, and those of promise 29. */
public final class TickEdgesTest {
    public static void main(String[] args) {
        tripTakesAllHeat();
        tripStowsTheWhole();
        unitForEachHundred();
        atMostWhatIsInTheColdTank();
        allIsDumpedIfNotFilled();
        degreesOfThePipe();
        tracedDegrees();
        thaw();
        thawCountsTicks();
        noSaltInTheTickOfTheThaw();
        emptyPipeStaysEmpty();
        turbineWarmsTwoTicks();
        turbineTakesItsLoadOrAll();
        turbineTakesTheSaltOfTheTick();
        energyByStrength();
        energyIsShared();
        hourOfThePrice();
        cloudsDriftLast();
        passEdges();
        manyTicksAreSingleOnes();
        Check.end("TickEdgesTest");
    }

    private static void stowAll(Heliokeep x, int mirrors) {
        for (int mirror = 0; mirror < mirrors; mirror++) x.aim(mirror, Heliokeep.STOWED);
    }

    /** Step 1: with a TRIP the HEAT is 0: nothing is DUMPED, no salt comes, but all other steps are taken. */
    private static void tripTakesAllHeat() {
        Heliokeep x = evening(3);
        x.pass(17);
        x.pipe(true);
        x.aim(0, 2);
        x.aim(1, 5);
        long dumped = x.sum(4);
        long heat = x.sum(3);
        int hot = x.plantIs(3);
        long made = x.sum(6);
        x.bound(2, 0);
        x.firm(11, 30);
        x.pass(1);
        Check.due("one trip", x.plantIs(10), 1);
        Check.due("no heat", x.sum(3), heat);
        Check.due("nothing dumped", x.sum(4), dumped);
        Check.due("what fell on panels", x.sum(2), 850 + 648);
        Check.due("the pipe, colder", x.plantIs(4), 28);
        Check.due("the turbine goes on", x.plantIs(3), hot - 3);
        Check.due("energy is made", x.sum(6), made + 3 * 8);
        Check.due("delivered", x.sum(9), 24);
        Check.due("short", x.sum(10), 6);
        x.pass(1);
        Check.due("no light any more", x.sum(2), 850 + 648);
        Check.due("no trip any more", x.plantIs(10), 1);
    }

    /** Step 1: behind it all that are not BROKEN are STOWED, whatever they hit; a BROKEN one trips again and again. */
    private static void tripStowsTheWhole() {
        Heliokeep x = Check.plant(9, 3, 11, 19, 27);
        x.aim(0, 0);
        x.aim(1, 4);
        x.aim(2, 5);
        x.drift(2, 3);
        x.fail(0, true);
        x.fail(3, true);
        x.bound(0, 0);
        x.pass(1);
        int[] aims = {0, Heliokeep.STOWED, Heliokeep.STOWED, Heliokeep.STOWED};
        for (int mirror = 0; mirror < 4; mirror++) Check.due("the aim " + mirror, x.mirrorIs(mirror, 2), aims[mirror]);
        Check.due("what was missed", x.sum(1), 660 * 2 / 10 + 590);
        x.aim(1, 3);
        x.pass(3);
        Check.due("the whole one is stowed again", x.mirrorIs(1, 2), Heliokeep.STOWED);
        Check.due("a trip with each tick", x.plantIs(10), 4);
        Check.due("a strain with each trip", x.strain(0), 4);
        Check.due("no strain of the next panel", x.strain(1), 0);
        Check.due("no heat", x.sum(3), 0);
        x.pass(6);
        Check.due("as long as it shines", x.plantIs(10), 9);
    }

    /** Step 2: one unit for each 100 of HEAT; all other HEAT is DUMPED. */
    private static void unitForEachHundred() {
        int[][] cells = {{3, 63}, {3, 57}, {3, 11, 2}, {3, 24, 57}};
        int[] lastIsOff = {1, 1, 1, 0};
        int[] heats = {98, 100, 198, 200};
        for (int k = 0; k < 4; k++) {
            Heliokeep x = Check.plant(11, cells[k]);
            x.haze(9);
            for (int mirror = 0; mirror < cells[k].length; mirror++) x.aim(mirror, 2);
            if (lastIsOff[k] == 1) {
                x.aim(cells[k].length - 1, 0);
                x.drift(cells[k].length - 1, -1);
            }
            x.pipe(true);
            x.pass(1);
            int units = heats[k] / 100;
            String state = "a heat of " + heats[k];
            Check.due(state, x.sum(3), heats[k]);
            Check.due(state + ": units", x.sum(5), units);
            Check.due(state + ": in the hot tank", x.plantIs(3), units);
            Check.due(state + ": in the cold one", x.plantIs(2), 100 - units);
            Check.due(state + ": dumped", x.sum(4), heats[k] - 100 * units);
            Check.due(state + ": degrees", x.plantIs(4), units > 0 ? 35 : 28);
            Check.due(state + ": kept()", x.kept(), (float) (100 * units) / (float) heats[k]);
        }
    }

    /** At the hour 14, with a hundred units in the hot tank, none in the cold one, and the pipe at 40 degrees. */
    private static Heliokeep emptied() {
        Heliokeep x = Check.plant(11, 3, 2, 4, 11);
        for (int mirror = 0; mirror < 4; mirror++) x.aim(mirror, mirror + 1);
        x.pipe(true);
        x.pass(3);
        Check.due("all in the hot tank", x.plantIs(3), 100);
        Check.due("none in the cold one", x.plantIs(2), 0);
        return x;
    }

    /** Step 2: at most what there is in the cold tank; without a unit the pipe gets colder. */
    private static void atMostWhatIsInTheColdTank() {
        for (int cold = 0; cold < 9; cold++) {
            Heliokeep x = emptied();
            for (int mirror = 1; mirror < 4; mirror++) x.aim(mirror, Heliokeep.STOWED);
            if (cold > 0) x.salt(cold);
            long dumped = x.sum(4);
            x.pass(1);
            int units = cold < 6 ? cold : 6;
            String state = cold + " units in the cold tank";
            Check.due(state + ": units", x.sum(5), 100 + units);
            Check.due(state + ": in the hot tank", x.plantIs(3), 100 + units);
            Check.due(state + ": left", x.plantIs(2), cold - units);
            Check.due(state + ": dumped", x.sum(4) - dumped, 660 - 100 * units);
            Check.due(state + ": degrees", x.plantIs(4), units > 0 ? 40 : 38);
        }
    }

    /** Step 2: a pipe that is EMPTY or PLUGGED brings no salt, and all HEAT is DUMPED. */
    private static void allIsDumpedIfNotFilled() {
        for (int isPlugged = 0; isPlugged < 2; isPlugged++) {
            Heliokeep x = Check.plant(4, 3);
            if (isPlugged == 1) x.pipe(true);
            x.pass(7);
            x.aim(0, 2);
            x.pass(1);
            Check.due("what the pipe is", x.plantIs(5), isPlugged == 1 ? Heliokeep.PLUGGED : Heliokeep.EMPTY);
            Check.due("no salt", x.sum(5), 0);
            Check.due("all is dumped", x.sum(4), 950);
            Check.due("cold", x.plantIs(2), 100);
            Check.due("degrees", x.plantIs(4), isPlugged == 1 ? 18 : 0);
            Check.due("kept()", x.kept(), 0.0f);
        }
    }

    /**
     * Lets ticks pass from the hour 6 on, with the pipe just filled: s if salt comes, - if none does, S and t the same
     * with trace heating. The degrees behind each tick are due, below 0 if it is PLUGGED with them.
     */
    private static void duePipe(String ticks, int... degrees) {
        Heliokeep x = Check.plant(6, 3, 11);
        x.salt(500);
        x.pipe(true);
        for (int k = 0; k < ticks.length(); k++) {
            char tick = ticks.charAt(k);
            stowAll(x, 2);
            if (tick == 's' || tick == 'S') {
                x.aim(0, 2);
                x.aim(1, 3);
            }
            x.trace(tick == 'S' || tick == 't');
            x.pass(1);
            String state = ticks.substring(0, k + 1);
            Check.due("degrees behind " + state, x.plantIs(4), degrees[k] < 0 ? -degrees[k] : degrees[k]);
            Check.due("behind " + state, x.plantIs(5), degrees[k] < 0 ? Heliokeep.PLUGGED : Heliokeep.FILLED);
        }
    }

    /** Step 3: 5 degrees more, at most 40, if salt came, otherwise 2 less; below 20 it is PLUGGED and keeps them. */
    private static void degreesOfThePipe() {
        duePipe("ssss", 35, 40, 40, 40);
        duePipe("-sss", 28, 33, 38, 40);
        duePipe("--sss", 28, 26, 31, 36, 40);
        duePipe("s-ss-s", 35, 33, 38, 40, 38, 40);
        duePipe("------s-s", 28, 26, 24, 22, 20, -18, -18, -18, -18);
        duePipe("-----s-", 28, 26, 24, 22, 20, 25, 23);
        duePipe("s--------ss", 35, 33, 31, 29, 27, 25, 23, 21, -19, -19, -19);
        duePipe("s-------s-", 35, 33, 31, 29, 27, 25, 23, 21, 26, 24);
    }

    /** Step 3: with TRACE heating it has at least 22 degrees, and no more by it. */
    private static void tracedDegrees() {
        duePipe("tttttt", 28, 26, 24, 22, 22, 22);
        duePipe("s------tt", 35, 33, 31, 29, 27, 25, 23, 22, 22);
        duePipe("s-------tt", 35, 33, 31, 29, 27, 25, 23, 21, 22, 22);
        duePipe("-----t-", 28, 26, 24, 22, 20, 22, 20);
        duePipe("-----S", 28, 26, 24, 22, 20, 25);
        duePipe("----tSSSSS", 28, 26, 24, 22, 22, 27, 32, 37, 40, 40);
        duePipe("ttttt--", 28, 26, 24, 22, 22, 20, -18);
    }

    /** Step 3: the thaw is 1 more with each TICK of TRACE heating, 0 without; with the third one it has 22 degrees. */
    private static void thaw() {
        duePipe("------ttt", 28, 26, 24, 22, 20, -18, -18, -18, 22);
        duePipe("------tttt", 28, 26, 24, 22, 20, -18, -18, -18, 22, 22);
        duePipe("------ttt-", 28, 26, 24, 22, 20, -18, -18, -18, 22, 20);
        duePipe("------SSSS", 28, 26, 24, 22, 20, -18, -18, -18, 22, 27);
        duePipe("------tt-tt-ttt", 28, 26, 24, 22, 20, -18, -18, -18, -18, -18, -18, -18, -18, -18, 22);
        duePipe("------t-t-t-t-", 28, 26, 24, 22, 20, -18, -18, -18, -18, -18, -18, -18, -18, -18);
        duePipe("------ttt--ttt--", 28, 26, 24, 22, 20, -18, -18, -18, 22, 20, -18, -18, -18, 22, 20, -18);
        duePipe("s--------ttt", 35, 33, 31, 29, 27, 25, 23, 21, -19, -19, -19, 22);
    }

    /** The thaw counts ticks: telling of the heating in between is nothing to it. */
    private static void thawCountsTicks() {
        Heliokeep x = new Heliokeep();
        x.pipe(true);
        x.pass(6);
        x.trace(true);
        x.pass(2);
        x.trace(false);
        x.trace(true);
        x.pass(1);
        Check.due("with the third tick", x.plantIs(5), Heliokeep.FILLED);
        Check.due("degrees", x.plantIs(4), 22);
        Check.due("pipe(false)", x.pipe(false), 0);
        Check.due("pipe(true)", x.pipe(true), 30);

        Heliokeep once = new Heliokeep();
        once.pipe(true);
        once.pass(6);
        once.trace(true);
        once.pass(3);
        Check.due("three ticks at once", once.plantIs(5), Heliokeep.FILLED);
        Heliokeep late = new Heliokeep();
        late.pipe(true);
        late.pass(30);
        late.trace(true);
        late.pass(2);
        Check.due("plugged for long", late.plantIs(5), Heliokeep.PLUGGED);
        late.pass(1);
        Check.due("plugged for long, with the third tick", late.plantIs(5), Heliokeep.FILLED);
    }

    /** The pipe is PLUGGED as salt would come in the third tick: salt comes from the next one on. */
    private static void noSaltInTheTickOfTheThaw() {
        Heliokeep x = Check.plant(5, 3);
        x.pipe(true);
        x.pass(6);
        Check.due("plugged at noon", x.plantIs(5), Heliokeep.PLUGGED);
        x.trace(true);
        x.aim(0, 2);
        x.pass(3);
        Check.due("filled", x.plantIs(5), Heliokeep.FILLED);
        Check.due("no salt", x.sum(5), 0);
        Check.due("all is dumped", x.sum(4), x.sum(3));
        x.pass(1);
        Check.due("salt", x.sum(5), 6);
        Check.due("degrees", x.plantIs(4), 27);
    }

    private static void emptyPipeStaysEmpty() {
        Heliokeep x = Check.plant(10, 3);
        x.aim(0, 2);
        x.trace(true);
        x.pass(48);
        Check.due("empty", x.plantIs(5), Heliokeep.EMPTY);
        Check.due("no degrees", x.plantIs(4), 0);
        Check.due("no salt", x.sum(5), 0);
        x.trace(false);
        x.pass(48);
        Check.due("still empty", x.plantIs(5), Heliokeep.EMPTY);
        Check.due("pipe(true)", x.pipe(true), 30);
    }

    /** By night, at the hour 18: a hundred units in the hot tank, the pipe empty, and a turbine that runs. */
    private static Heliokeep evening(int load) {
        Heliokeep x = emptied();
        stowAll(x, 4);
        x.pipe(false);
        x.pass(2);
        x.load(load);
        x.pass(2);
        Check.due("nothing taken yet", x.plantIs(3), 100);
        Check.due("the turbine runs", x.plantIs(7), Heliokeep.RUNS);
        return x;
    }

    /** Step 4: WARMING for two TICKS; it takes salt from the next one on. */
    private static void turbineWarmsTwoTicks() {
        Heliokeep x = emptied();
        stowAll(x, 4);
        Check.due("load(4)", x.load(4), 0);
        Check.due("warming", x.plantIs(7), Heliokeep.WARMING);
        x.pass(1);
        Check.due("one left", x.plantIs(7), Heliokeep.WARMING);
        Check.due("load(6)", x.load(6), 4);
        x.pass(1);
        Check.due("none left", x.plantIs(7), Heliokeep.RUNS);
        Check.due("nothing taken", x.plantIs(3), 100);
        Check.due("nothing made", x.sum(6), 0);
        x.pass(1);
        Check.due("the load told last", x.plantIs(3), 94);
        Check.due("stop()", x.stop(), Heliokeep.RUNS);
        x.pass(1);
        Check.due("stopped, nothing", x.plantIs(3), 94);
        x.load(7);
        x.pass(1);
        Check.due("stop(), with a tick left", x.stop(), Heliokeep.WARMING);
        x.load(7);
        x.pass(2);
        Check.due("it warmed anew", x.plantIs(3), 94);
        Check.due("for two ticks", x.plantIs(7), Heliokeep.RUNS);
        x.pass(1);
        Check.due("taken", x.plantIs(3), 87);
    }

    /** Step 4: its LOAD, or all, if that is less. */
    private static void turbineTakesItsLoadOrAll() {
        int[] loads = {1, 19, 20};
        int[][] hots = {{99, 98, 97, 96, 95, 94, 93}, {81, 62, 43, 24, 5, 0, 0}, {80, 60, 40, 20, 0, 0, 0}};
        for (int k = 0; k < 3; k++) {
            Heliokeep x = evening(loads[k]);
            for (int tick = 0; tick < 7; tick++) {
                x.pass(1);
                String state = "the load " + loads[k] + ", tick " + tick;
                Check.due(state + ": hot", x.plantIs(3), hots[k][tick]);
                Check.due(state + ": cold", x.plantIs(2), 100 - hots[k][tick]);
                Check.due(state + ": made", x.sum(6), 10 * (100 - hots[k][tick]));
                Check.due(state + ": it runs", x.plantIs(7), Heliokeep.RUNS);
                Check.due(state + ": its load", x.plantIs(8), loads[k]);
            }
        }
        Heliokeep told = evening(5);
        told.pass(1);
        Check.due("load(20)", told.load(20), 5);
        told.pass(1);
        Check.due("from the next tick on", told.plantIs(3), 75);
    }

    /** Step 2 is ahead of step 4: what has just come can be taken, and what was taken is not there for step 2. */
    private static void turbineTakesTheSaltOfTheTick() {
        Heliokeep x = Check.plant(9, 3);
        x.load(20);
        x.pass(2);
        x.pipe(true);
        x.aim(0, 2);
        x.pass(1);
        Check.due("nine came and went", x.plantIs(3), 0);
        Check.due("all in the cold tank", x.plantIs(2), 100);
        Check.due("nine came", x.sum(5), 9);
        Check.due("energy of nine", x.sum(6), 9 * 8);

        Heliokeep none = emptied();
        none.load(20);
        none.pass(2);
        long units = none.sum(5);
        none.salt(1);
        none.pass(1);
        Check.due("one came, not those that the turbine gave back", none.sum(5), units + 1);
        Check.due("those", none.plantIs(2), 20);
    }

    /** Step 4: 10, less the STRENGTH by 5, rounded down, for each unit. */
    private static void energyByStrength() {
        int[] byHour = {10, 10, 10, 10, 10, 10, 10, 10, 9, 9, 9, 8, 8, 9, 9, 9, 10, 10, 10, 10, 10, 10, 10, 10};
        Heliokeep x = evening(3);
        for (int tick = 18; tick < 42; tick++) {
            long made = x.sum(6);
            x.pass(1);
            Check.due("made of three units in the hour " + tick % 24, x.sum(6) - made, 3 * byHour[tick % 24]);
        }
    }

    /** Step 5: TRACE heating first, then the FIRM amount, and the rest is sold. */
    private static void energyIsShared() {
        int[][] rows = { // load, trace, firm, price: made, traced, bought, delivered, short, sold, money
            {5, 0, 0, 7, 50, 0, 0, 0, 0, 50, 350}, {5, 0, 49, 7, 50, 0, 0, 49, 0, 1, 7},
            {5, 0, 50, 7, 50, 0, 0, 50, 0, 0, 0}, {5, 0, 51, 7, 50, 0, 0, 50, 1, 0, 0},
            {5, 1, 47, 7, 50, 2, 0, 47, 0, 1, 7}, {5, 1, 48, 7, 50, 2, 0, 48, 0, 0, 0},
            {5, 1, 49, 7, 50, 2, 0, 48, 1, 0, 0}, {5, 1, 0, 0, 50, 2, 0, 0, 0, 48, 0},
            {20, 0, 200, 99, 200, 0, 0, 200, 0, 0, 0}, {20, 0, 199, 99, 200, 0, 0, 199, 0, 1, 99},
            {20, 1, 200, 99, 200, 2, 0, 198, 2, 0, 0}, {20, 0, 0, 99, 200, 0, 0, 0, 0, 200, 19800},
            {20, 1, 0, 99, 200, 2, 0, 0, 0, 198, 19602}, {1, 1, 8, 1, 10, 2, 0, 8, 0, 0, 0},
            {1, 1, 7, 1, 10, 2, 0, 7, 0, 1, 1}, {1, 1, 9, 1, 10, 2, 0, 8, 1, 0, 0},
            {1, 0, 200, 1, 10, 0, 0, 10, 190, 0, 0},
            {0, 0, 0, 5, 0, 0, 0, 0, 0, 0, 0}, {0, 0, 1, 5, 0, 0, 0, 0, 1, 0, 0}, {0, 1, 0, 5, 0, 2, 2, 0, 0, 0, 0},
            {0, 1, 200, 5, 0, 2, 2, 0, 200, 0, 0}};
        for (int[] row : rows) {
            Heliokeep x = evening(row[0] > 0 ? row[0] : 1);
            if (row[0] == 0) x.stop();
            x.trace(row[1] == 1);
            x.firm(18, row[2]);
            x.price(18, row[3]);
            x.pass(1);
            String state = "the load " + row[0] + ", trace " + row[1] + ", firm " + row[2] + ", price " + row[3];
            for (int k = 4; k < 11; k++) Check.due(state + ": sum(" + (k + 2) + ")", x.sum(k + 2), row[k]);
        }
    }

    /** The price and the FIRM amount are those of the HOUR as the TICK begins, 23 and then 0. */
    private static void hourOfThePrice() {
        Heliokeep x = evening(1);
        x.pass(4);
        long sold = x.sum(11);
        x.price(22, 2);
        x.price(23, 3);
        x.price(0, 5);
        x.price(1, 99);
        x.firm(22, 1);
        x.firm(23, 4);
        x.firm(0, 11);
        int[] money = {18, 36, 36};
        int[] delivered = {1, 5, 15};
        int[] shorts = {0, 0, 1};
        for (int k = 0; k < 3; k++) {
            x.pass(1);
            Check.due("money " + k, x.sum(12), money[k]);
            Check.due("delivered " + k, x.sum(9), delivered[k]);
            Check.due("short " + k, x.sum(10), shorts[k]);
        }
        Check.due("sold", x.sum(11), sold + 15);
        x.firm(0, 0);
        x.pass(22);
        x.price(23, 0);
        long before = x.sum(12);
        x.pass(1);
        Check.due("free of charge", x.sum(12), before);
        x.pass(1);
        Check.due("the hour 0 of the next day", x.sum(12), before + 50);
    }

    /** Step 6: CLOUDS drift behind all that; a cloud that has come is there with the next TICK. */
    private static void cloudsDriftLast() {
        Heliokeep x = Check.plant(11, 3, 11);
        x.aim(0, 2);
        x.aim(1, 2);
        x.cloud(0, 3, 1, 1, 1, 0);
        int[] light = {900, 900 + 950, 1850 + 850 + 810};
        for (int tick = 0; tick < 3; tick++) {
            x.pass(1);
            Check.due("the light behind " + tick, x.sum(0), light[tick]);
        }
        Heliokeep last = Check.plant(23, 3);
        last.cloud(0, 3, 1, 1, 0, 0);
        last.aim(0, 2);
        last.pass(1);
        Check.due("dirt below a cloud", last.mirrorIs(0, 1), 1);
    }

    /** 1 to 48 TICKS, not beyond 9999; what is refused takes none of them. */
    private static void passEdges() {
        Heliokeep x = Check.plant(9950, 3);
        Check.due("pass(1)", x.pass(1), 9951);
        Check.due("pass(48) to the last tick", x.pass(48), 9999);
        for (int ticks : new int[] {1, 2, 47, 48}) {
            Check.refuses("pass(" + ticks + ") at the end", Check.STATE, () -> x.pass(ticks));
        }
        Check.refuses("pass(0) at the end", Check.ARGUMENT, () -> x.pass(0));
        Check.refuses("pass(49) at the end", Check.ARGUMENT, () -> x.pass(49));
        Heliokeep late = Check.plant(9952, 3);
        late.aim(0, 2);
        Check.refuses("pass(48), one too many", Check.STATE, () -> late.pass(48));
        Check.due("no tick of it", late.plantIs(0), 9952);
        Check.due("no light of it", late.sum(0), 0);
        Check.due("pass(47)", late.pass(47), 9999);
        Check.refuses("pass(1)", Check.STATE, () -> late.pass(1));
    }

    private static void manyTicksAreSingleOnes() {
        for (Plant plant : new Plant[] {Plant.NEW, Plant.NOON, Plant.NIGHT, Plant.FULL}) {
            Heliokeep many = plant.make();
            Heliokeep single = plant.make();
            many.pass(48);
            for (int k = 0; k < 48; k++) single.pass(1);
            List<String> due = Whole.of(single, plant.mirrors());
            String difference = Whole.firstDifference(Whole.of(many, plant.mirrors()), due);
            Check.due(plant + ": 48 ticks, or one after the other", difference, "none");
        }
    }
}
