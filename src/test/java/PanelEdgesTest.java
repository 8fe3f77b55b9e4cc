/** The edges that the part "Aims, panels" names, those of a lawful row of aims, and those of promises 14 to 20. */
public final class PanelEdgesTest {
    public static void main(String[] args) {
        hitsEachPlace();
        missedBeyondThePanels();
        stowedOrWithoutLight();
        trippedAboveTheBound();
        firstBound();
        boundOfNothing();
        allOnOnePanel();
        strainOfEachTripped();
        safeUpToTheBound();
        safeOneByOne();
        bestOfSetsOfAllSizes();
        bestOfTheLastMirrors();
        bestIsStowedFirst();
        bestIsTheFirstOfSeveral();
        bestUpToTheBound();
        bestLeavesTheOthers();
        bestOfTheTrippedOnes();
        bestOfOnesThatMiss();
        bestChangesNothing();
        Check.end("PanelEdgesTest");
    }

    /** A mirror of 950, told so that it hits a place of -6 to 11. */
    private static Heliokeep hitting(int place) {
        Heliokeep x = Check.plant(11, 3);
        int aim = place < 0 ? 0 : place > 5 ? 5 : place;
        int error = place - aim < -3 ? -3 : place - aim > 3 ? 3 : place - aim;
        x.aim(0, aim);
        x.drift(0, error);
        x.correct(0, error - (place - aim));
        return x;
    }

    /** It HITS its aim and its ERROR, less its CORRECTION: six RAYS go there, two to each place beside it. */
    private static void hitsEachPlace() {
        for (int aim = 0; aim < 6; aim++) {
            for (int error = -3; error <= 3; error++) {
                Heliokeep x = Check.plant(11, 3);
                x.aim(0, aim);
                x.drift(0, error);
                for (int correction = -3; correction <= 3; correction++) {
                    x.correct(0, correction);
                    int[] want = new int[6];
                    for (int panel = 0; panel < 6; panel++) {
                        int off = panel - (aim + error - correction);
                        want[panel] = off == 0 ? 570 : off == 1 || off == -1 ? 190 : 0;
                    }
                    Check.dueFluxes("aim " + aim + ", error " + error + ", correction " + correction, x, want);
                }
            }
        }
    }

    /** RAYS to a place that is no PANEL are missed: all of them, eight, two or none. */
    private static void missedBeyondThePanels() {
        int[] fallen = {0, 0, 0, 0, 0, 190, 760, 950, 950, 950, 950, 760, 190, 0, 0, 0, 0, 0};
        for (int place = -6; place <= 11; place++) {
            Heliokeep x = hitting(place);
            x.pass(1);
            int heat = fallen[place + 6];
            Check.dueSums("the place " + place, x, 950, 950 - heat, 0, heat, heat);
            Heliokeep tripped = hitting(place);
            Check.boundAll(tripped, 0);
            tripped.pass(1);
            Check.dueSums("the place " + place + ", tripped", tripped, 950, 950 - heat, heat);
            Check.due("a trip by the place " + place, tripped.plantIs(10), heat > 0 ? 1 : 0);
        }
    }

    /** A MIRROR that is STOWED HITS nothing, and none of its RAYS is missed; one without POWER has no RAYS. */
    private static void stowedOrWithoutLight() {
        Heliokeep x = Check.plant(11, 3, 11);
        x.drift(0, 3);
        x.correct(0, -3);
        x.fail(0, true);
        x.aim(1, 5);
        x.drift(1, 3);
        x.cloud(1, 3, 1, 1, 0, 0);
        Check.dueFluxes("stowed, and covered", x, 0, 0, 0, 0, 0, 0);
        x.pass(1);
        Check.dueSums("stowed, and covered", x);
        x.clear();
        x.pass(1);
        Check.dueSums("all is missed", x, 900, 900);
        Check.due("kept() without heat", x.kept(), 0.0f);
    }

    /** A PANEL is TRIPPED by a FLUX above its BOUND, not by one as high: each PANEL by itself. */
    private static void trippedAboveTheBound() {
        for (int panel = 0; panel < 6; panel++) {
            for (int aim = Math.max(0, panel - 1); aim <= Math.min(5, panel + 1); aim++) {
                int flux = aim == panel ? 570 : 190;
                for (int below = 0; below < 2; below++) {
                    Heliokeep x = Check.plant(11, 3);
                    x.aim(0, aim);
                    x.bound(panel, flux - below);
                    String state = "the bound " + (flux - below) + " of the panel " + panel + ", the flux " + flux;
                    x.pass(1);
                    Check.due(state + ": trips", x.plantIs(10), below);
                    for (int p = 0; p < 6; p++) {
                        Check.due(state + ": strain(" + p + ")", x.strain(p), p == panel ? below : 0);
                    }
                    Check.due(state + ": the aim", x.mirrorIs(0, 2), below > 0 ? Heliokeep.STOWED : aim);
                    Check.due(state + ": heat", x.sum(3) > 0, below == 0);
                }
            }
        }
    }

    /** The BOUND is 3000 at first: by seven mirrors on two panels the flux is 3000, or 10 more. */
    private static void firstBound() {
        int[] lastCells = {51, 43};
        for (int k = 0; k < 2; k++) {
            Heliokeep x = Check.plant(11, 3, 2, 4, 11, 1, 5, lastCells[k]);
            for (int mirror = 0; mirror < 5; mirror++) x.aim(mirror, 2);
            x.aim(5, 1);
            x.aim(6, 1);
            Check.due("the flux", x.flux(2), 3000 + 10 * k);
            x.pass(1);
            Check.due("trips by a flux of " + (3000 + 10 * k), x.plantIs(10), k);
            Check.due("strain(2)", x.strain(2), k);
            for (int panel = 0; panel < 6; panel++) Check.due("the bound at first", x.bound(panel, 0), 3000);
        }
    }

    /** A BOUND of 0 is kept by a FLUX of 0, as by night. */
    private static void boundOfNothing() {
        Heliokeep x = Check.plant(0, 3);
        Check.boundAll(x, 0);
        x.aim(0, 2);
        Check.due("safe by night", x.isSafe(), true);
        x.pass(6);
        Check.due("no trip by night", x.plantIs(10), 0);
        Check.due("not safe at dawn", x.isSafe(), false);
        x.cloud(0, 3, 1, 1, 0, 0);
        Check.due("safe below a cloud", x.isSafe(), true);
        x.pass(1);
        Check.due("no trip below a cloud", x.plantIs(10), 0);
        x.clear();
        x.pass(1);
        Check.due("a trip then", x.plantIs(10), 1);
        x.pass(1);
        Check.due("stowed, no more", x.plantIs(10), 1);
    }

    /** Twelve mirrors on one panel: no bound of 9999 is reached. */
    private static void allOnOnePanel() {
        Heliokeep x = Check.plant(11, 3, 2, 4, 11, 1, 5, 10, 12, 19, 0, 6, 9);
        for (int mirror = 0; mirror < 12; mirror++) x.aim(mirror, 5);
        int tenths = 95 + 3 * 90 + 5 * 85 + 3 * 80;
        Check.dueFluxes("all on the last panel", x, 0, 0, 0, 0, 2 * tenths, 6 * tenths);
        x.bound(5, 9999);
        x.pass(1);
        Check.due("no trip", x.plantIs(10), 0);
        Check.dueSums("two of ten missed", x, 10 * tenths, 2 * tenths, 0, 8 * tenths, 8 * tenths);
        x.bound(5, 6 * tenths - 1);
        x.pass(1);
        Check.due("a trip", x.plantIs(10), 1);
        for (int mirror = 0; mirror < 12; mirror++) Check.due("stowed", x.mirrorIs(mirror, 2), Heliokeep.STOWED);
    }

    /** Each PANEL that is TRIPPED has a STRAIN more with each TRIP, and no other one. */
    private static void strainOfEachTripped() {
        Heliokeep x = Check.plant(11, 3);
        x.aim(0, 0);
        x.fail(0, true);
        x.bound(0, 569);
        int[] wantFirst = {1, 2, 2, 2};
        int[] wantSecond = {0, 0, 1, 2};
        int[] firstBounds = {569, 512, 570, 570};
        int[] secondBounds = {190, 190, 169, 131};
        for (int tick = 0; tick < 4; tick++) {
            x.bound(0, firstBounds[tick]);
            x.bound(1, secondBounds[tick]);
            x.pass(1);
            Check.due("strain(0) behind " + tick, x.strain(0), wantFirst[tick]);
            Check.due("strain(1) behind " + tick, x.strain(1), wantSecond[tick]);
            Check.due("trips behind " + tick, x.plantIs(10), tick + 1);
            Check.due("strain(2) behind " + tick, x.strain(2), 0);
        }
    }

    /** No PANEL is TRIPPED now, nor would be, if any single MIRROR HIT one place less, or one more. */
    private static void safeUpToTheBound() {
        for (int place = -6; place <= 11; place++) {
            Heliokeep x = hitting(place);
            for (int panel = 0; panel < 6; panel++) {
                int off = panel > place ? panel - place : place - panel;
                int most = off < 2 ? 570 : off == 2 ? 190 : 0;
                x.bound(panel, most);
                String state = "the place " + place + ", the bound " + most + " of the panel " + panel;
                Check.due(state, x.isSafe(), true);
                if (most > 0) x.bound(panel, most - 1);
                Check.due(state + ", or one less", x.isSafe(), most == 0);
                x.bound(panel, 3000);
            }
            Check.boundAll(x, 0);
            x.aim(0, Heliokeep.STOWED);
            Check.due("stowed", x.isSafe(), true);
        }
    }

    /** Single ones: two that erred towards one another at once don't count; a BROKEN one counts like all others. */
    private static void safeOneByOne() {
        Heliokeep x = Check.plant(11, 2, 4);
        x.aim(0, 0);
        x.aim(1, 4);
        x.bound(2, 180);
        Check.due("each of them alone", x.isSafe(), true);
        x.bound(2, 179);
        Check.due("one of them is too much", x.isSafe(), false);
        x.aim(1, 5);
        x.fail(0, true);
        Check.due("a broken one counts", x.isSafe(), false);
        x.fail(0, false);
        x.aim(0, Heliokeep.STOWED);
        Check.due("a stowed one doesn't", x.isSafe(), true);
        x.fail(0, true);
        Check.due("a broken one that is stowed doesn't", x.isSafe(), true);
        x.bound(5, 539);
        Check.due("now it is tripped", x.isSafe(), false);
        x.cloud(0, 4, 1, 1, 0, 0);
        Check.due("without power nothing is", x.isSafe(), true);
        Check.due("an empty field", new Heliokeep().isSafe(), true);
    }

    /** A set has 1 to 4 MIRRORS, and none that isn't there. */
    private static void bestOfSetsOfAllSizes() {
        Heliokeep x = Check.plant(11, 3, 11, 19, 27, 35);
        int[] sums = {0, 950, 1850, 2700, 3500};
        for (int set = 1; set < 32; set++) {
            int wrong = set;
            int size = Integer.bitCount(set);
            if (size == 5) {
                Check.refuses("best of five", Check.ARGUMENT, () -> x.best(wrong, Heliokeep.NONE));
                Check.refuses("bestAnew of five", Check.ARGUMENT, () -> x.bestAnew(wrong));
            } else {
                int sum = 0;
                for (int k = 0; k < 5; k++) if ((set >> k & 1) == 1) sum += 950 - 50 * k;
                Check.due("best of the set " + set, x.best(set, Heliokeep.NONE), sum);
                Check.due("bestAnew of the set " + set, x.bestAnew(set), sum);
                Check.due("the last aim of the set " + set, x.best(set, size - 1), 1);
                Check.refuses("one aim more of the set " + set, Check.ARGUMENT, () -> x.best(wrong, size));
                if (set == (1 << size) - 1) Check.due("the first " + size, sum, sums[size]);
            }
        }
        for (int set : new int[] {0, 32, 33, 48, 64, 1 << 30, Integer.MIN_VALUE, Integer.MIN_VALUE + 1, -1}) {
            Check.refuses("best(" + set + ", NONE)", Check.ARGUMENT, () -> x.best(set, Heliokeep.NONE));
            Check.refuses("bestAnew(" + set + ")", Check.ARGUMENT, () -> x.bestAnew(set));
        }
        Heliokeep empty = new Heliokeep();
        Check.refuses("best of an empty field", Check.ARGUMENT, () -> empty.best(1, Heliokeep.NONE));
        Check.refuses("best of nothing", Check.ARGUMENT, () -> empty.best(0, Heliokeep.NONE));
        Check.refuses("bestAnew of nothing", Check.ARGUMENT, () -> empty.bestAnew(0));
    }

    /** The bit k is for the MIRROR k, up to 11; the aims are told by their numbers, the lowest first. */
    private static void bestOfTheLastMirrors() {
        Heliokeep x = Check.plant(11, 3, 2, 4, 11, 1, 5, 10, 12, 19, 0, 6, 9);
        x.drift(11, 1);
        x.drift(10, 2);
        x.drift(9, -1);
        x.drift(8, -2);
        Check.dueBest("the last four", x, 15 << 8, 850 + 3 * 800, 3, 2, 0, 0);
        Check.dueBest("the last one", x, 1 << 11, 800, 0);
        Check.dueBest("the first and the last one", x, 1 + (1 << 11), 950 + 800, 1, 0);
        Check.refuses("one beyond", Check.ARGUMENT, () -> x.best(1 << 12, Heliokeep.NONE));
        Check.refuses("one beyond, with the last one", Check.ARGUMENT, () -> x.bestAnew(3 << 11));
        x.fail(10, true);
        Check.refuses("a broken one", Check.ARGUMENT, () -> x.best(1 << 10, Heliokeep.NONE));
        Check.refuses("with a broken one", Check.ARGUMENT, () -> x.bestAnew(15 << 8));
        Check.dueBest("without the broken one", x, 11 << 8, 850 + 2 * 800, 3, 2, 0);
        x.fail(0, true);
        Check.refuses("the first one, broken", Check.ARGUMENT, () -> x.best(1, Heliokeep.NONE));
        Check.refuses("with the first one, broken", Check.ARGUMENT, () -> x.bestAnew(1 + (1 << 11)));
    }

    /** STOWED is ahead of all PANELS: a MIRROR without light is STOWED, as is one that has none to add. */
    private static void bestIsStowedFirst() {
        int stowed = Heliokeep.STOWED;
        Heliokeep x = Check.plant(0, 3, 11, 19, 27);
        for (int mirror = 0; mirror < 4; mirror++) x.aim(mirror, mirror);
        Check.dueBest("by night", x, 15, 0, stowed, stowed, stowed, stowed);
        x.pass(11);
        x.cloud(1, 3, 1, 1, 0, 0);
        Check.dueBest("one below a cloud", x, 3, 950 + 850 + 800, 1, stowed);
        x.drift(0, 3);
        x.correct(0, -3);
        x.bound(5, 0);
        x.aim(2, stowed);
        x.aim(3, stowed);
        Check.dueBest("no aim brings it to a panel that may have light", x, 1, 0, stowed);
        Check.boundAll(x, 0);
        Check.dueBest("no panel may have light", x, 15, 0, stowed, stowed, stowed, stowed);
        x.clear();
        x.aim(0, stowed);
        x.bound(4, 180);
        x.bound(5, 540);
        Check.dueBest("room for one", x, 2, 720, 5);
        x.bound(5, 539);
        Check.dueBest("no room", x, 2, 0, stowed);
    }

    /** Of several best ones it is the first: by the aim of the lowest MIRROR of them, then of the next one. */
    private static void bestIsTheFirstOfSeveral() {
        int stowed = Heliokeep.STOWED;
        Heliokeep x = Check.plant(11, 2, 4, 11);
        Check.dueBest("all alike", x, 7, 2700, 1, 1, 1);
        Check.boundAll(x, 0);
        x.bound(3, 180);
        x.bound(4, 540);
        x.bound(5, 180);
        Check.dueBest("room for one of three alike", x, 7, 900, stowed, stowed, 4);
        Check.dueBest("room for one of two alike", x, 5, 900, stowed, 4);
        x.bound(0, 540);
        x.bound(1, 180);
        Check.dueBest("two places, of which one is better", x, 7, 1620, stowed, 0, 4);
        x.bound(2, 180);
        x.bound(1, 540);
        x.bound(0, 180);
        x.bound(3, 180);
        Check.dueBest("two places alike", x, 7, 1800, stowed, 1, 4);
        Check.dueBest("two for two of them", x, 3, 1800, 1, 4);
        x.drift(0, 1);
        Check.dueBest("two for two, one of which errs", x, 3, 1800, 0, 4);
        x.drift(0, -2);
        Check.dueBest("the other way", x, 3, 1800, 2, 4);
    }

    /** Lawful is a FLUX up to the BOUND, on each PANEL, with the light of the others. */
    private static void bestUpToTheBound() {
        for (int panel = 0; panel < 6; panel++) {
            Heliokeep x = Check.plant(11, 3, 11);
            Check.boundAll(x, 0);
            int[] whole = {760, 950, 950, 950, 950, 760};
            if (panel > 0) x.bound(panel - 1, 190);
            if (panel < 5) x.bound(panel + 1, 190);
            x.bound(panel, 570);
            Check.dueBest("just room on the panel " + panel, x, 1, whole[panel], panel);
            x.bound(panel, 569);
            Check.dueBest("too little on the panel " + panel, x, 1, 0, Heliokeep.STOWED);
            x.bound(panel, 570);
            int beside = panel > 0 ? panel - 1 : 1;
            x.bound(beside, 189);
            Check.dueBest("too little beside the panel " + panel, x, 1, 0, Heliokeep.STOWED);
            x.bound(beside, 190);
            Check.dueBest("for the second one", x, 3, whole[panel], panel, Heliokeep.STOWED);
        }
    }

    /** All other MIRRORS are as they are, and no row is lawful if they alone are above a BOUND. */
    private static void bestLeavesTheOthers() {
        Heliokeep x = Check.plant(11, 3, 11, 19);
        x.aim(1, 4);
        x.bound(4, 540);
        x.fail(1, true);
        Check.dueBest("beside a broken one", x, 1, 900 + 950, 1);
        x.bound(1, 0);
        x.bound(2, 0);
        Check.dueBest("little room beside a broken one", x, 1, 900, Heliokeep.STOWED);
        x.bound(4, 730);
        x.bound(5, 180 + 570);
        Check.dueBest("just room", x, 1, 900 + 760, 5);
        x.bound(4, 729);
        Check.dueBest("just too little", x, 1, 900, Heliokeep.STOWED);
        x.bound(4, 540);
        Check.dueBest("the others at their bound", x, 5, 900, Heliokeep.STOWED, Heliokeep.STOWED);
        x.bound(4, 539);
        Check.refuses("the others above it", Check.STATE, () -> x.best(5, Heliokeep.NONE));
        Check.refuses("the others above it, an aim", Check.STATE, () -> x.best(5, 1));
        Check.refuses("the others above it, anew", Check.STATE, () -> x.bestAnew(5));
        Check.refuses("no such aim, the others above it", Check.ARGUMENT, () -> x.best(5, 2));
        Check.refuses("a broken one, above it", Check.ARGUMENT, () -> x.bestAnew(7));
        x.cloud(1, 3, 1, 1, 0, 0);
        Check.dueBest("the others below a cloud", x, 1, 760, 5);
    }

    /** What the MIRRORS of the set aim at now doesn't matter: they may be above a BOUND. */
    private static void bestOfTheTrippedOnes() {
        Heliokeep x = Check.plant(11, 3, 11);
        x.bound(2, 190);
        x.aim(0, 2);
        x.aim(1, 2);
        Check.refuses("the other one is above it", Check.STATE, () -> x.best(1, Heliokeep.NONE));
        Check.dueBest("both", x, 3, 950 + 900, 1, 4);
        x.aim(1, 5);
        Check.dueBest("the other one is not", x, 1, 720 + 950, 1);
        x.bound(2, 0);
        Check.dueBest("no light for that one", x, 1, 720 + 950, 4);
    }

    /** A row is good for what falls on panels: what is missed adds nothing. */
    private static void bestOfOnesThatMiss() {
        int[] errors = {-3, -3, 3, 3};
        int[] corrections = {3, 2, -3, -2};
        int[] sums = {190, 760, 190, 760};
        int[] aims = {5, 5, 0, 0};
        for (int k = 0; k < 4; k++) {
            Heliokeep x = Check.plant(11, 3);
            x.drift(0, errors[k]);
            x.correct(0, corrections[k]);
            Check.dueBest("off by " + (errors[k] - corrections[k]), x, 1, sums[k], aims[k]);
        }
    }

    private static void bestChangesNothing() {
        Heliokeep x = Check.plant(11, 3, 11, 19, 27);
        for (int mirror = 0; mirror < 4; mirror++) x.aim(mirror, 5 - mirror);
        x.best(15, Heliokeep.NONE);
        x.bestAnew(15);
        x.isSafe();
        for (int mirror = 0; mirror < 4; mirror++) Check.due("the aim stays", x.mirrorIs(mirror, 2), 5 - mirror);
        Check.dueFluxes("as they were", x, 0, 160, 650, 850, 900, 750);
        x.pass(1);
        Check.due("the heat", x.sum(3), 3310);
    }
}
