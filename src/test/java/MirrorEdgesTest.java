/** The edges that the part "Sun, mirrors" names, and those of promises 1 to 13. */
public final class MirrorEdgesTest {
    public static void main(String[] args) {
        hoursGoRound();
        eachCell();
        atMostTwelveMirrors();
        eachInACellOfItsOwn();
        firstOfAMirror();
        dirtAtMostNine();
        dirtAtMidnightAlone();
        errorHeld();
        powerAtItsEdges();
        measuredIfThereIsPower();
        shadeByStrength();
        shadeWhateverTheNeighbourIs();
        noShadeRoundTheRowsEnd();
        cloudsOverTheEdge();
        cloudsDrift();
        atMostFourClouds();
        powerAhead();
        powerAheadAsItComes();
        washAtDuskAndDawn();
        washTakesThree();
        Check.end("MirrorEdgesTest");
    }

    /** The HOUR is the remainder of the TICK by 24: from 23 to 0, and to the last TICK, 9999. */
    private static void hoursGoRound() {
        Heliokeep x = new Heliokeep();
        for (int tick = 0; tick < 50; tick++) {
            Check.due("the tick", x.plantIs(0), tick);
            Check.due("the strength of the tick " + tick, x.plantIs(1), Check.STRENGTHS[tick % 24]);
            Check.due("pass(1)", x.pass(1), tick + 1);
        }
        Check.passAll(x, 9982 - 50);
        Check.due("the strength of the tick 9982, of the hour 22", x.plantIs(1), 0);
        x.pass(2);
        for (int hour = 0; hour < 15; hour++) {
            Check.due("the strength of the hour " + hour, x.plantIs(1), Check.STRENGTHS[hour]);
            x.pass(1);
        }
        Check.due("the last tick", x.plantIs(0), 9999);
        Check.due("its strength, of the hour 15", x.plantIs(1), 5);
    }

    /** CELLS are 8 times the row and the column; the DISTANCE is the row, 1, and how far the column is off 3. */
    private static void eachCell() {
        int[] off = {3, 2, 1, 0, 1, 2, 3, 4};
        for (int row = 0; row < 8; row++) {
            Heliokeep x = new Heliokeep();
            for (int column = 0; column < 8; column++) {
                Check.due("a mirror in each cell of a row", x.mirror(8 * row + column), column);
            }
            x.pass(11);
            for (int column = 0; column < 8; column++) {
                int distance = row + 1 + off[column];
                String cell = "row " + row + ", column " + column;
                Check.due(cell + ": the cell", x.mirrorIs(column, 0), 8 * row + column);
                Check.due(cell + ": the distance", x.mirrorIs(column, 7), distance);
                Check.due(cell + ": the power at noon", x.power(column, 0), 50 * (20 - distance));
            }
        }
    }

    /** MIRRORS are numbered from 0, at most 12. */
    private static void atMostTwelveMirrors() {
        Heliokeep x = new Heliokeep();
        for (int mirror = 0; mirror < 12; mirror++) {
            int number = mirror;
            Check.refuses("mirrorIs of no mirror yet", Check.INDEX, () -> x.mirrorIs(number, 0));
            Check.due("mirror " + mirror, x.mirror(5 * mirror), mirror);
            Check.due("its cell", x.mirrorIs(mirror, 0), 5 * mirror);
        }
        Check.refuses("a mirror too many, in a free cell", Check.STATE, () -> x.mirror(63));
        Check.refuses("a mirror too many, in a taken cell", Check.STATE, () -> x.mirror(55));
        Check.refuses("a mirror too many, in no cell", Check.INDEX, () -> x.mirror(-1));
        Check.refuses("a mirror too many, in no cell", Check.INDEX, () -> x.mirror(64));
        Check.refuses("the mirror 12", Check.INDEX, () -> x.aim(12, 0));
        Check.due("the mirror 11", x.aim(11, 0), Heliokeep.STOWED);
        for (int mirror = 0; mirror < 12; mirror++) Check.due("as it was", x.mirrorIs(mirror, 0), 5 * mirror);
    }

    /** Each in a CELL of its own; a refused one uses no number up. */
    private static void eachInACellOfItsOwn() {
        Heliokeep x = Check.plant(0, 0, 63);
        x.fail(0, true);
        Check.refuses("the first cell again", Check.STATE, () -> x.mirror(0));
        Check.refuses("the last cell again", Check.STATE, () -> x.mirror(63));
        Check.due("the number 2", x.mirror(1), 2);
        Check.refuses("the cell 1 again", Check.STATE, () -> x.mirror(1));
        Check.due("the number 3", x.mirror(62), 3);
        for (int mirror = 4; mirror < 11; mirror++) x.mirror(10 + mirror);
        Check.refuses("a taken cell for the last number", Check.STATE, () -> x.mirror(20));
        Check.due("the number 11", x.mirror(21), 11);
    }

    /** No DIRT, STOWED, no ERROR and no CORRECTION at first, whenever it is put. */
    private static void firstOfAMirror() {
        Heliokeep x = Check.plant(35, 3);
        Check.due("mirror(11)", x.mirror(11), 1);
        Check.dueMirror("put on the second day", x, 1, 11, 0, Heliokeep.STOWED, 0, 0, 0, 0, 2);
        Check.due("its error", x.measure(1), 0);
        Check.due("its power, without dirt", x.power(1, 0), 900);
        Check.due("the dirt of the other one", x.mirrorIs(0, 1), 1);
        x.pass(12);
        x.mirror(19);
        Check.due("put in the hour 23", x.mirrorIs(2, 1), 0);
        x.pass(1);
        x.mirror(27);
        int[] dirt = {2, 1, 1, 0};
        for (int mirror = 0; mirror < 4; mirror++) {
            Check.due("at midnight, the mirror " + mirror, x.mirrorIs(mirror, 1), dirt[mirror]);
        }
        x.pass(23);
        Check.due("put in the hour 0, all day", x.mirrorIs(3, 1), 0);
        x.pass(1);
        Check.due("and a dirt more then", x.mirrorIs(3, 1), 1);
    }

    /** DIRT is at most 9: for a MIRROR that AIMS, a STOWED, a BROKEN and a COVERED one. */
    private static void dirtAtMostNine() {
        Heliokeep x = Check.plant(0, 3, 11, 19, 27);
        x.aim(0, 2);
        x.aim(2, 3);
        x.fail(2, true);
        x.cloud(3, 3, 1, 1, 0, 0);
        for (int day = 1; day < 12; day++) {
            x.pass(24);
            for (int mirror = 0; mirror < 4; mirror++) {
                Check.due("day " + day + ", mirror " + mirror, x.mirrorIs(mirror, 1), day < 9 ? day : 9);
            }
            Check.due("day " + day + ", at noon", x.power(0, 11), 95 * (day < 9 ? 10 - day : 1));
            Check.due("day " + day + ", a day on, by night", x.power(0, 24), 0);
        }
        x.pass(11);
        Check.due("at most 9 ahead too", x.power(0, 24), 95);
        x.water(3);
        x.pass(7);
        Check.due("wash(0)", x.wash(0), 9);
        Check.due("the washed one", x.mirrorIs(0, 1), 0);
        x.pass(6);
        Check.due("a dirt more", x.mirrorIs(0, 1), 1);
        Check.due("the others", x.mirrorIs(1, 1), 9);
    }

    /** A DIRT more, if the TICK has the HOUR 0 then: with the last of 24 TICKS, however they are passed. */
    private static void dirtAtMidnightAlone() {
        Heliokeep x = Check.plant(0, 3);
        Check.due("in the hour 0 of the first day", x.mirrorIs(0, 1), 0);
        for (int tick = 1; tick <= 49; tick++) {
            x.pass(1);
            Check.due("behind " + tick + " ticks", x.mirrorIs(0, 1), tick / 24);
        }
        x.pass(22);
        Check.due("the hour 23", x.mirrorIs(0, 1), 2);
        x.pass(2);
        Check.due("the hour 1", x.mirrorIs(0, 1), 3);
        x.pass(48);
        Check.due("two days", x.mirrorIs(0, 1), 5);
        x.pass(46);
        Check.due("to the hour 23", x.mirrorIs(0, 1), 6);
        x.pass(1);
        Check.due("to the hour 0", x.mirrorIs(0, 1), 7);
    }

    /** The ERROR is more by so much, held to -3 to 3; what was beyond is gone. */
    private static void errorHeld() {
        for (int first = -3; first <= 3; first++) {
            Heliokeep x = Check.plant(11, 3);
            for (int by = -6; by <= 6; by++) {
                x.drift(0, -6);
                x.drift(0, first + 3);
                Check.due("the error told", x.measure(0), first);
                x.drift(0, by);
                int want = first + by < -3 ? -3 : first + by > 3 ? 3 : first + by;
                Check.due("drift(0, " + by + ") from " + first, x.measure(0), want);
                x.drift(0, want > 0 ? -1 : 1);
                Check.due("and one back", x.measure(0), want > 0 ? want - 1 : want + 1);
            }
        }
    }

    /** The POWER is divided once, in the end, and rounded down; so is a tenth of it. */
    private static void powerAtItsEdges() {
        int[][] rows = { // cell, dirt, hour, haze, power, ray
            {3, 0, 11, 0, 950, 95}, {3, 0, 12, 0, 950, 95}, {63, 0, 11, 0, 400, 40}, {3, 0, 6, 0, 95, 9},
            {3, 0, 17, 0, 95, 9}, {3, 0, 5, 0, 0, 0}, {3, 0, 18, 0, 0, 0}, {3, 0, 11, 9, 95, 9}, {3, 9, 11, 0, 95, 9},
            {3, 9, 11, 9, 9, 0}, {63, 9, 11, 9, 4, 0}, {3, 9, 6, 9, 0, 0}, {3, 9, 6, 8, 1, 0}, {63, 9, 7, 9, 1, 0},
            {57, 8, 11, 9, 10, 1}, {56, 8, 11, 9, 9, 0}, {3, 8, 11, 9, 19, 1}, {57, 8, 11, 8, 20, 2},
            {1, 1, 10, 1, 619, 61}, {0, 1, 6, 1, 64, 6}, {59, 3, 9, 2, 235, 23}};
        for (int[] row : rows) {
            Heliokeep x = Check.plant(24 * row[1] + row[2], row[0]);
            x.haze(row[3]);
            x.aim(0, 2);
            String state = "the cell " + row[0] + ", dirt " + row[1] + ", hour " + row[2] + ", haze " + row[3];
            Check.due(state + ": the dirt", x.mirrorIs(0, 1), row[1]);
            Check.due(state + ": the power", x.power(0, 0), row[4]);
            Check.dueFluxes(state, x, 0, 2 * row[5], 6 * row[5], 2 * row[5], 0, 0);
            x.pass(1);
            Check.due(state + ": the light", x.sum(0), 10 * row[5]);
        }
    }

    /** measure() throws if the POWER is 0, be it by rounding; a POWER of 1 is enough. */
    private static void measuredIfThereIsPower() {
        Heliokeep none = Check.plant(222, 3);
        none.drift(0, 3);
        none.haze(9);
        Check.refuses("19 by 20", Check.STATE, () -> none.measure(0));
        none.haze(8);
        Check.due("38 by 20", none.measure(0), 3);
        Heliokeep far = Check.plant(222, 63);
        far.haze(8);
        Check.refuses("16 by 20", Check.STATE, () -> far.measure(0));
        far.haze(7);
        Check.due("24 by 20", far.measure(0), 0);
        for (int error = -3; error <= 3; error += 6) {
            for (int correction = -3; correction <= 3; correction += 6) {
                Heliokeep x = Check.plant(17, 3);
                x.drift(0, error);
                x.correct(0, correction);
                Check.due("stowed", x.measure(0), error - correction);
                x.aim(0, 5);
                Check.due("whatever it aims at", x.measure(0), error - correction);
            }
        }
    }

    /** SHADED, if the STRENGTH is 3 or less: by the MIRROR to the right below the HOUR 12, otherwise to the left. */
    private static void shadeByStrength() {
        Heliokeep x = Check.plant(0, 26, 27, 28);
        String leftAndMiddle = "110", none = "000", middleAndRight = "011";
        for (int tick = 0; tick < 48; tick++) {
            int hour = tick % 24;
            String want = hour < 8 ? leftAndMiddle : hour < 16 ? none : middleAndRight;
            String got = "" + x.mirrorIs(0, 6) + x.mirrorIs(1, 6) + x.mirrorIs(2, 6);
            Check.due("shaded in the hour " + hour, got, want);
            boolean isDay = hour >= 6 && hour < 18;
            for (int mirror = 0; mirror < 3; mirror++) {
                boolean hasPower = isDay && want.charAt(mirror) == '0';
                Check.due("the power in the hour " + hour + " of " + mirror, x.power(mirror, 0) > 0, hasPower);
            }
            x.pass(1);
        }
    }

    /** Whatever the neighbour AIMS at, and whether it is BROKEN or COVERED; COVERED itself or not. */
    private static void shadeWhateverTheNeighbourIs() {
        Heliokeep x = Check.plant(7, 3);
        Check.due("alone", x.mirrorIs(0, 6), 0);
        x.mirror(2);
        Check.due("with one to the left", x.mirrorIs(0, 6), 0);
        x.mirror(11);
        Check.due("with one in the next row", x.mirrorIs(0, 6), 0);
        x.mirror(5);
        Check.due("with one further to the right", x.mirrorIs(0, 6), 0);
        x.mirror(4);
        Check.due("with one to the right", x.mirrorIs(0, 6), 1);
        x.aim(4, 5);
        Check.due("it aims", x.mirrorIs(0, 6), 1);
        x.fail(4, true);
        Check.due("it is broken", x.mirrorIs(0, 6), 1);
        x.cloud(0, 4, 1, 1, 0, 0);
        Check.due("it is covered", x.mirrorIs(0, 6), 1);
        Check.due("itself it is not", x.mirrorIs(0, 5), 0);
        x.cloud(0, 3, 1, 1, 0, 0);
        Check.due("it is covered itself", x.mirrorIs(0, 5), 1);
        Check.due("and shaded too", x.mirrorIs(0, 6), 1);
        x.clear();
        x.aim(0, 2);
        Check.dueFluxes("the shaded one", x, 0, 0, 0, 0, 0, 0);
        x.pass(1);
        Check.dueFluxes("the hour 8", x, 0, 94, 282, 94, 90, 270);
    }

    /** The CELL beside a MIRROR is in its row: 7 and 8 are not beside one another, nor 55 and 56, nor 63 and 0. */
    private static void noShadeRoundTheRowsEnd() {
        int[][] pairs = {{7, 8}, {55, 56}, {63, 0}, {15, 7}, {0, 8}, {6, 15}};
        for (int[] pair : pairs) {
            Heliokeep x = Check.plant(6, pair);
            for (int k = 0; k < 3; k++) {
                for (int mirror = 0; mirror < 2; mirror++) {
                    String state = "the cell " + pair[mirror] + " in the tick " + x.plantIs(0);
                    Check.due(state + ": shaded", x.mirrorIs(mirror, 6), 0);
                    Check.due(state + ": power", x.power(mirror, 0) > 0, x.plantIs(1) > 0);
                }
                x.pass(k == 0 ? 11 : 12);
            }
        }
        Heliokeep ends = Check.plant(6, 6, 7, 56, 57);
        Check.due("beside the row's end", ends.mirrorIs(0, 6), 1);
        Check.due("at the row's end", ends.mirrorIs(1, 6), 0);
        Check.due("at the row's begin", ends.mirrorIs(2, 6), 1);
        Check.due("beside the row's begin", ends.mirrorIs(3, 6), 0);
        ends.pass(11);
        Check.due("at dusk, beside the row's end", ends.mirrorIs(0, 6), 0);
        Check.due("at dusk, at the row's end", ends.mirrorIs(1, 6), 1);
        Check.due("at dusk, at the row's begin", ends.mirrorIs(2, 6), 0);
        Check.due("at dusk, beside the row's begin", ends.mirrorIs(3, 6), 1);
    }

    /** Looks at all cells of the field, behind some ticks: those below the cloud are covered, no other. */
    private static void dueCovered(int ticks, int... cloud) {
        for (int row = 0; row < 8; row++) {
            Heliokeep x = new Heliokeep();
            StringBuilder got = new StringBuilder("........");
            StringBuilder want = new StringBuilder("........");
            for (int column = 0; column < 8; column++) x.mirror(8 * row + column);
            x.cloud(cloud[0], cloud[1], cloud[2], cloud[3], cloud[4], cloud[5]);
            Check.passAll(x, ticks);
            for (int column = 0; column < 8; column++) if (x.mirrorIs(column, 5) == 1) got.setCharAt(column, '#');
            int above = row - cloud[0] - cloud[4] * ticks;
            for (int k = 0; k < cloud[3]; k++) {
                int column = cloud[1] + cloud[5] * ticks + k;
                if (above >= 0 && above < cloud[2] && column >= 0 && column < 8) want.setCharAt(column, '#');
            }
            String state = "the row " + row + " below the cloud " + java.util.Arrays.toString(cloud);
            Check.due(state + " behind " + ticks + " ticks", got.toString(), want.toString());
        }
    }

    /** A rectangle of rows and columns, perhaps beyond the field. */
    private static void cloudsOverTheEdge() {
        int[] places = {-16, -9, -8, -7, -1, 0, 1, 6, 7, 8, 9, 16};
        for (int place : places) {
            dueCovered(0, place, 2, 8, 3, 0, 0);
            dueCovered(0, place, 2, 1, 3, 0, 0);
            dueCovered(0, 2, place, 3, 8, 0, 0);
            dueCovered(0, 2, place, 3, 1, 0, 0);
            dueCovered(0, place, place, 8, 8, 0, 0);
            dueCovered(0, place, place, 1, 1, 0, 0);
        }
        dueCovered(0, -16, 16, 8, 8, 0, 0);
        dueCovered(0, 3, 3, 2, 2, 0, 0);
        Heliokeep x = Check.plant(11, 0, 63, 28);
        x.cloud(0, 0, 8, 8, 0, 0);
        for (int mirror = 0; mirror < 3; mirror++) Check.due("the whole field", x.power(mirror, 0), 0);
    }

    /** It drifts by a row up or down, and by a column to the left or right, or not, with each TICK. */
    private static void cloudsDrift() {
        for (int down = -1; down <= 1; down++) {
            for (int right = -1; right <= 1; right++) {
                for (int ticks : new int[] {1, 2, 4, 7, 24}) dueCovered(ticks, 3, 4, 2, 3, down, right);
            }
        }
        dueCovered(16, -16, -16, 1, 1, 1, 1);
        dueCovered(23, -16, -16, 8, 8, 1, 1);
        dueCovered(31, -16, -16, 8, 8, 1, 1);
        dueCovered(16, 16, 16, 8, 8, -1, -1);
        dueCovered(23, 16, 16, 8, 8, -1, -1);
        dueCovered(9, 16, -8, 1, 8, -1, 1);
        dueCovered(480, 3, 3, 8, 8, 1, -1);
    }

    /** CLOUDS, at most 4, those beyond the field too. */
    private static void atMostFourClouds() {
        Heliokeep x = Check.plant(11, 3);
        for (int round = 0; round < 2; round++) {
            for (int many = 1; many <= 4; many++) Check.due("cloud " + many, x.cloud(16, 16, 1, 1, 1, 1), many);
            Check.refuses("a fifth one", Check.STATE, () -> x.cloud(0, 0, 8, 8, 0, 0));
            x.pass(30);
            Check.refuses("a fifth one, with all far away", Check.STATE, () -> x.cloud(0, 0, 8, 8, 0, 0));
            Check.due("not covered", x.mirrorIs(0, 5), 0);
            Check.due("clear()", x.clear(), 4);
            Check.due("clear() without one", x.clear(), 0);
        }
        Check.due("two over one another", x.cloud(0, 3, 1, 1, 0, 1), 1);
        Check.due("two over one another", x.cloud(0, 3, 1, 1, 0, 0), 2);
        Check.due("covered by both", x.mirrorIs(0, 5), 1);
        x.pass(1);
        Check.due("covered by the one that stays", x.mirrorIs(0, 5), 1);
    }

    /** Behind 0 to 24 TICKS, also beyond the TICK 9999, with the DIRT of the midnight between and with the CLOUDS. */
    private static void powerAhead() {
        Heliokeep x = Check.plant(9983, 3);
        Check.due("the dirt in the hour 23", x.mirrorIs(0, 1), 9);
        x.water(3);
        x.wash(0);
        Check.due("at noon, ahead of it", x.power(0, 12), 855);
        x.pass(16);
        Check.due("the last tick", x.plantIs(0), 9999);
        int[] want = new int[25];
        int[] hours = {15, 16, 17, 30, 31, 32, 33, 34, 35, 36, 37, 38, 39};
        int[] powers = {427, 256, 85, 76, 228, 380, 532, 684, 760, 760, 684, 532, 380};
        for (int k = 0; k < hours.length; k++) want[hours[k] - 15] = powers[k];
        for (int ticks = 0; ticks <= 24; ticks++) {
            Check.due("beyond the last tick by " + ticks, x.power(0, ticks), want[ticks]);
        }
        x.cloud(-14, 3, 1, 1, 1, 0);
        Check.due("a cloud that is gone by then", x.power(0, 15), 76);
        x.clear();
        x.cloud(-16, 3, 2, 1, 1, 0);
        Check.due("a cloud that just comes", x.power(0, 15), 0);
        Check.due("a cloud that is still there", x.power(0, 16), 0);
        Check.due("a cloud that is just gone", x.power(0, 17), 380);
    }

    /** What is told of some TICKS ahead is what comes, if nothing is told meanwhile. */
    private static void powerAheadAsItComes() {
        for (int first : new int[] {0, 5, 11, 23, 203}) {
            for (int ticks = 0; ticks <= 24; ticks++) {
                Heliokeep x = Check.plant(first, 3, 4, 63, 62);
                x.haze(1);
                x.aim(0, 2);
                x.aim(1, 3);
                x.bound(2, 100);
                x.fail(1, true);
                x.cloud(-7, 4, 2, 1, 1, 0);
                x.cloud(7, 16, 1, 3, 0, -1);
                x.cloud(-16, 6, 8, 1, 1, 0);
                int[] ahead = new int[4];
                for (int mirror = 0; mirror < 4; mirror++) ahead[mirror] = x.power(mirror, ticks);
                Check.due("the tick stays", x.plantIs(0), first);
                if (ticks > 0) x.pass(ticks);
                for (int mirror = 0; mirror < 4; mirror++) {
                    String state = ticks + " ticks behind " + first + ", mirror " + mirror;
                    Check.due(state, x.power(mirror, 0), ahead[mirror]);
                }
            }
        }
    }

    /** wash() throws if the STRENGTH is above 0: in the HOURS 6 to 17. */
    private static void washAtDuskAndDawn() {
        Heliokeep x = Check.plant(0, 3);
        x.cloud(0, 0, 8, 8, 0, 0);
        for (int hour = 0; hour < 24; hour++) {
            x.water(3);
            if (hour >= 6 && hour < 18) {
                Check.refuses("wash(0) in the hour " + hour, Check.STATE, () -> x.wash(0));
                Check.due("the water stays", x.plantIs(9), 3 * (hour - 5));
            } else {
                Check.due("wash(0) in the hour " + hour, x.wash(0), 0);
                Check.due("the water", x.plantIs(9), hour < 6 ? 0 : 36);
            }
            x.pass(1);
        }
    }

    /** It takes 3 of the water, DIRT or not; there is too little of it below 3. */
    private static void washTakesThree() {
        Heliokeep x = Check.plant(216, 3, 11, 19);
        x.aim(0, 2);
        x.fail(0, true);
        for (int water = 0; water < 3; water++) {
            Check.refuses("wash(0) with a water of " + water, Check.STATE, () -> x.wash(0));
            Check.due("the water stays", x.plantIs(9), water);
            Check.due("the dirt stays", x.mirrorIs(0, 1), 9);
            Check.due("water(1)", x.water(1), water + 1);
        }
        Check.due("wash(0) with just enough", x.wash(0), 9);
        Check.due("no water is left", x.plantIs(9), 0);
        Check.dueMirror("washed, and nothing else", x, 0, 3, 0, 2, 0, 1, 0, 0, 1);
        Check.due("not the other one", x.mirrorIs(1, 1), 9);
        x.water(500);
        x.water(500);
        Check.due("wash(0), without dirt", x.wash(0), 0);
        Check.due("three all the same", x.plantIs(9), 997);
        Check.due("wash(2)", x.wash(2), 9);
        Check.due("three more", x.plantIs(9), 994);
    }
}
