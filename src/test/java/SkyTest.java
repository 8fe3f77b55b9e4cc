/** Promises 11 to 13. */
public final class SkyTest {
    public static void main(String[] args) {
        haze();
        rectangle();
        driftOfClouds();
        farAway();
        cloudRefused();
        clear();
        Check.end("SkyTest");
    }

    private static void haze() {
        Heliokeep x = Check.plant(11, 3);
        x.aim(0, 2);
        int before = 0;
        for (int haze = 9; haze >= 0; haze--) {
            Check.due("haze(" + haze + ")", x.haze(haze), before);
            Check.due("power(0, 0) in the haze " + haze, x.power(0, 0), 10 * (10 - haze) * 10 * 19 / 20);
            before = haze;
        }
        x.haze(4);
        Check.refuses("haze(10)", Check.ARGUMENT, () -> x.haze(10));
        Check.refuses("haze(-1)", Check.ARGUMENT, () -> x.haze(-1));
        Check.due("flux(2) in haze", x.flux(2), 342);
        Check.due("haze(0)", x.haze(0), 4);
    }

    private static void rectangle() {
        // The rows 2 to 4 and the columns 3 to 4; all mirrors but the first four are just beside it.
        int[] cells = {19, 20, 35, 36, 11, 12, 18, 34, 21, 37, 43, 44};
        Heliokeep x = Check.plant(0, cells);
        Check.due("cloud(2, 3, 3, 2, 0, 0)", x.cloud(2, 3, 3, 2, 0, 0), 1);
        for (int k = 0; k < cells.length; k++) {
            Check.due("covered, the cell " + cells[k], x.mirrorIs(k, 5), k < 4 ? 1 : 0);
            Check.due("power, the cell " + cells[k], x.power(k, 11) == 0, k < 4);
        }
        x.pass(24);
        for (int k = 0; k < cells.length; k++) {
            Check.due("still covered, the cell " + cells[k], x.mirrorIs(k, 5), k < 4 ? 1 : 0);
        }
    }

    private static void driftOfClouds() {
        int[] downs = {1, -1, 0, 0};
        int[] rights = {0, 0, 1, -1};
        int[] rows = {-2, 6, 3, 3};
        int[] columns = {3, 3, -2, 9};
        int[][] cells = {{3, 11, 19}, {35, 27, 19}, {24, 25, 26}, {31, 30, 29}};
        int[] firstTicks = {2, 2, 2, 2};
        for (int way = 0; way < 4; way++) {
            Heliokeep x = Check.plant(9, cells[way]);
            x.cloud(rows[way], columns[way], 1, 1, downs[way], rights[way]);
            for (int tick = 0; tick < 5; tick++) {
                for (int k = 0; k < 3; k++) {
                    int there = firstTicks[way] + k;
                    String state = "way " + way + ", tick " + tick + ", mirror " + k;
                    Check.due(state + ": covered", x.mirrorIs(k, 5), tick == there ? 1 : 0);
                    if (there >= tick) Check.due(state + ": power ahead", x.power(k, there - tick), 0);
                    if (there > tick) Check.due(state + ": power just before", x.power(k, there - tick - 1) > 0, true);
                }
                x.pass(1);
            }
        }
    }

    private static void farAway() {
        Heliokeep x = Check.plant(9, 0, 63);
        Check.due("cloud(-16, -16, 8, 8, 1, 1)", x.cloud(-16, -16, 8, 8, 1, 1), 1);
        Check.due("cloud(16, 16, 1, 1, -1, -1)", x.cloud(16, 16, 1, 1, -1, -1), 2);
        for (int tick = 0; tick < 30; tick++) {
            Check.due("the first corner, tick " + tick, x.mirrorIs(0, 5), tick >= 9 && tick <= 16 ? 1 : 0);
            Check.due("the last corner, tick " + tick, x.mirrorIs(1, 5), tick == 9 || tick >= 16 && tick <= 23 ? 1 : 0);
            x.pass(1);
        }
    }

    private static void cloudRefused() {
        Heliokeep x = Check.plant(11, 3);
        int[][] wrong = {{17, 0, 1, 1, 0, 0}, {-17, 0, 1, 1, 0, 0}, {0, 17, 1, 1, 0, 0}, {0, -17, 1, 1, 0, 0},
                {0, 0, 0, 1, 0, 0}, {0, 0, 9, 1, 0, 0}, {0, 0, 1, 0, 0, 0}, {0, 0, 1, 9, 0, 0},
                {0, 0, 1, 1, 2, 0}, {0, 0, 1, 1, -2, 0}, {0, 0, 1, 1, 0, 2}, {0, 0, 1, 1, 0, -2}};
        for (int round = 0; round < 2; round++) {
            for (int[] w : wrong) {
                Check.refuses("cloud " + java.util.Arrays.toString(w), Check.ARGUMENT,
                        () -> x.cloud(w[0], w[1], w[2], w[3], w[4], w[5]));
            }
            if (round > 0) break;
            Check.due("one", x.cloud(5, 5, 1, 1, 0, 0), 1);
            Check.due("two", x.cloud(5, 5, 1, 1, 0, 0), 2);
            Check.due("three", x.cloud(5, 5, 1, 1, 0, 0), 3);
            Check.due("four", x.cloud(5, 5, 1, 1, 0, 0), 4);
            Check.refuses("five", Check.STATE, () -> x.cloud(0, 0, 8, 8, 0, 0));
        }
        Check.due("mirrorIs(0, 5)", x.mirrorIs(0, 5), 0);
        Check.due("clear()", x.clear(), 4);
    }

    private static void clear() {
        Heliokeep x = Check.plant(11, 3, 60);
        x.cloud(0, 0, 4, 8, 0, 0);
        x.cloud(4, 0, 4, 8, 0, 0);
        Check.due("covered by the first", x.mirrorIs(0, 5), 1);
        Check.due("covered by the second", x.mirrorIs(1, 5), 1);
        Check.due("clear()", x.clear(), 2);
        Check.due("clear() again", x.clear(), 0);
        Check.due("covered no more", x.mirrorIs(0, 5), 0);
        Check.due("the other neither", x.mirrorIs(1, 5), 0);
        Check.due("a new one", x.cloud(0, 0, 1, 8, 0, 0), 1);
        Check.due("covered again", x.mirrorIs(0, 5), 1);
    }
}
