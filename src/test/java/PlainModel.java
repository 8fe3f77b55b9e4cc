import java.util.ArrayList;
import java.util.Arrays;
import java.util.List;

/**
 * The document once more, as slowly and plainly as it can be read: every ray by itself, every row of aims tried
 * with the mirrors really aimed, every time ahead found by letting ticks pass on a copy of the sky.
 */
public final class PlainModel {
    private static final int CELL = 0, DIRT = 1, AIM = 2, CORRECTION = 3, BROKEN = 4, ERROR = 5;

    private final List<int[]> mirrors = new ArrayList<>();
    private List<int[]> clouds = new ArrayList<>();
    private int tick, haze, trips, cold = 100, hot, water, pipe, degrees, thaw, trace, turbine, warming, load;
    private final int[] bounds = {3000, 3000, 3000, 3000, 3000, 3000};
    private final int[] strains = new int[6];
    private final int[] prices = new int[24];
    private final int[] firms = new int[24];
    private final long[] sums = new long[13];

    public int mirror(int cell) {
        index(cell, 64);
        for (int[] m : mirrors) state(m[CELL] != cell);
        state(mirrors.size() < 12);
        mirrors.add(new int[] {cell, 0, -1, 0, 0, 0});
        return mirrors.size() - 1;
    }

    public void drift(int mirror, int by) {
        index(mirror, mirrors.size());
        argument(by >= -6 && by <= 6);
        int[] m = mirrors.get(mirror);
        m[ERROR] += by;
        while (m[ERROR] > 3) m[ERROR]--;
        while (m[ERROR] < -3) m[ERROR]++;
    }

    public int measure(int mirror) {
        index(mirror, mirrors.size());
        state(powerOf(mirrors.get(mirror)) != 0);
        return mirrors.get(mirror)[ERROR] - mirrors.get(mirror)[CORRECTION];
    }

    public int correct(int mirror, int correction) {
        index(mirror, mirrors.size());
        argument(correction >= -3 && correction <= 3);
        return swap(mirrors.get(mirror), CORRECTION, correction);
    }

    public int aim(int mirror, int aim) {
        index(mirror, mirrors.size());
        argument(aim >= -1 && aim <= 5);
        state(mirrors.get(mirror)[BROKEN] == 0);
        return swap(mirrors.get(mirror), AIM, aim);
    }

    public boolean fail(int mirror, boolean is) {
        index(mirror, mirrors.size());
        return swap(mirrors.get(mirror), BROKEN, is ? 1 : 0) == 1;
    }

    public int wash(int mirror) {
        index(mirror, mirrors.size());
        state(strength() == 0);
        state(water >= 3);
        water -= 3;
        return swap(mirrors.get(mirror), DIRT, 0);
    }

    public int mirrorIs(int mirror, int what) {
        index(mirror, mirrors.size());
        argument(what >= 0 && what <= 7);
        int[] m = mirrors.get(mirror);
        if (what == 5) return covered(m) ? 1 : 0;
        if (what == 6) return shaded(m) ? 1 : 0;
        return what == 7 ? distance(m) : m[what];
    }

    public int power(int mirror, int ticks) {
        index(mirror, mirrors.size());
        argument(ticks >= 0 && ticks <= 24);
        PlainModel later = new PlainModel();
        later.tick = tick;
        later.haze = haze;
        for (int[] m : mirrors) later.mirrors.add(m.clone());
        for (int[] c : clouds) later.clouds.add(c.clone());
        for (int i = 0; i < ticks; i++) later.turnSky();
        return later.powerOf(later.mirrors.get(mirror));
    }

    public int haze(int told) {
        argument(told >= 0 && told <= 9);
        int before = haze;
        haze = told;
        return before;
    }

    public int cloud(int row, int column, int rows, int columns, int down, int right) {
        argument(row >= -16 && row <= 16 && column >= -16 && column <= 16);
        argument(rows >= 1 && rows <= 8 && columns >= 1 && columns <= 8);
        argument(down >= -1 && down <= 1 && right >= -1 && right <= 1);
        state(clouds.size() < 4);
        clouds.add(new int[] {row, column, rows, columns, down, right});
        return clouds.size();
    }

    public int clear() {
        int before = clouds.size();
        clouds = new ArrayList<>();
        return before;
    }

    public int bound(int panel, int bound) {
        index(panel, 6);
        argument(bound >= 0 && bound <= 9999);
        return swap(bounds, panel, bound);
    }

    public int flux(int panel) {
        index(panel, 6);
        return fluxes(-1, 0)[panel + 20];
    }

    public int fluxAnew(int panel) {
        return flux(panel);
    }

    public int strain(int panel) {
        index(panel, 6);
        return strains[panel];
    }

    public boolean isSafe() {
        boolean safe = lawful(fluxes(-1, 0));
        for (int i = 0; i < mirrors.size(); i++) {
            safe = safe && lawful(fluxes(i, -1)) && lawful(fluxes(i, 1));
        }
        return safe;
    }

    public int best(int set, int which) {
        List<int[]> chosen = chosen(set);
        argument(which >= -1 && which < chosen.size());
        int[] best = bestRow(chosen);
        return which == -1 ? best[chosen.size()] : best[which];
    }

    public int bestAnew(int set) {
        List<int[]> chosen = chosen(set);
        return bestRow(chosen)[chosen.size()];
    }

    public int salt(int units) {
        argument(units >= 1 && units <= 500);
        state(cold + hot + units <= 1000);
        cold += units;
        return cold;
    }

    public int pipe(boolean isFilled) {
        state(pipe == (isFilled ? 0 : 1));
        pipe = isFilled ? 1 : 0;
        degrees = isFilled ? 30 : 0;
        return degrees;
    }

    public boolean trace(boolean is) {
        boolean before = trace == 1;
        trace = is ? 1 : 0;
        return before;
    }

    public int load(int told) {
        argument(told >= 1 && told <= 20);
        int before = load;
        load = told;
        if (turbine == 0) {
            turbine = 1;
            warming = 2;
        }
        return before;
    }

    public int stop() {
        state(turbine != 0);
        int before = turbine;
        turbine = 0;
        load = 0;
        return before;
    }

    public int water(int units) {
        argument(units >= 1 && units <= 500);
        state(water + units <= 1000);
        water += units;
        return water;
    }

    public int price(int hour, int price) {
        index(hour, 24);
        argument(price >= 0 && price <= 99);
        return swap(prices, hour, price);
    }

    public int firm(int hour, int amount) {
        index(hour, 24);
        argument(amount >= 0 && amount <= 200);
        return swap(firms, hour, amount);
    }

    public int pass(int ticks) {
        argument(ticks >= 1 && ticks <= 48);
        state(tick + ticks <= 9999);
        for (int i = 0; i < ticks; i++) oneTick();
        return tick;
    }

    public int plantIs(int what) {
        argument(what >= 0 && what <= 10);
        return new int[] {tick, strength(), cold, hot, degrees, pipe, trace, turbine, load, water, trips}[what];
    }

    public long sum(int what) {
        argument(what >= 0 && what <= 12);
        return sums[what];
    }

    public float kept() {
        return sums[3] == 0 ? 0.0f : ((float) (sums[3] - sums[4])) / ((float) sums[3]);
    }

    private void oneTick() {
        int hour = tick % 24;
        int[] places = fluxes(-1, 0);
        int all = Arrays.stream(places).sum();
        int fallen = Arrays.stream(places, 20, 26).sum();
        sums[0] += all;
        sums[1] += all - fallen;
        int heat = 0;
        if (lawful(places)) {
            heat = fallen;
            sums[3] += heat;
        } else {
            sums[2] += fallen;
            trips++;
            for (int p = 0; p < 6; p++) if (places[p + 20] > bounds[p]) strains[p]++;
            for (int[] m : mirrors) if (m[BROKEN] == 0) m[AIM] = -1;
        }

        boolean came = false;
        if (pipe == 1) {
            while (heat >= 100 && cold > 0) {
                heat -= 100;
                cold--;
                hot++;
                sums[5]++;
                came = true;
            }
        }
        sums[4] += heat;

        boolean plugged = pipe == 2;
        if (plugged && trace == 1) {
            thaw++;
            if (thaw == 3) {
                pipe = 1;
                degrees = 22;
            }
        } else if (plugged) {
            thaw = 0;
        } else if (pipe == 1) {
            degrees = came ? Math.min(40, degrees + 5) : degrees - 2;
            if (trace == 1 && degrees < 22) degrees = 22;
            if (degrees < 20) {
                pipe = 2;
                thaw = 0;
            }
        }

        int made = 0;
        if (turbine == 2) {
            for (int unit = 0; unit < load && hot > 0; unit++) {
                hot--;
                cold++;
                made += 10 - strength() / 5;
            }
        } else if (turbine == 1) {
            warming--;
            if (warming == 0) turbine = 2;
        }
        sums[6] += made;

        for (int k = 0; k < 2 * trace; k++) {
            sums[7]++;
            if (made > 0) made--;
            else sums[8]++;
        }
        for (int k = 0; k < firms[hour]; k++) {
            if (made > 0) {
                made--;
                sums[9]++;
            } else {
                sums[10]++;
            }
        }
        sums[11] += made;
        sums[12] += made * prices[hour];
        turnSky();
    }

    private void turnSky() {
        for (int[] c : clouds) {
            c[0] += c[4];
            c[1] += c[5];
        }
        tick++;
        if (tick % 24 == 0) for (int[] m : mirrors) if (m[DIRT] < 9) m[DIRT]++;
    }

    private int strength() {
        int hour = tick % 24;
        if (hour < 6 || hour > 17) return 0;
        int toNoon = hour < 12 ? 11 - hour : hour - 12;
        return toNoon == 0 ? 10 : 11 - 2 * toNoon;
    }

    private int distance(int[] m) {
        int column = m[CELL] % 8;
        return m[CELL] / 8 + 1 + (column < 3 ? 3 - column : column - 3);
    }

    private boolean covered(int[] m) {
        boolean is = false;
        for (int[] c : clouds) {
            for (int row = c[0]; row < c[0] + c[2]; row++) {
                for (int column = c[1]; column < c[1] + c[3]; column++) {
                    is = is || row == m[CELL] / 8 && column == m[CELL] % 8;
                }
            }
        }
        return is;
    }

    private boolean shaded(int[] m) {
        if (strength() > 3) return false;
        int to = tick % 24 < 12 ? 1 : -1;
        boolean is = false;
        for (int[] other : mirrors) is = is || other[CELL] == m[CELL] + to && other[CELL] / 8 == m[CELL] / 8;
        return is;
    }

    private int powerOf(int[] m) {
        if (covered(m) || shaded(m)) return 0;
        return strength() * (10 - haze) * (10 - m[DIRT]) * (20 - distance(m)) / 20;
    }

    /** The rays at the places -20 to 25, each 20 further on; one mirror may be off by some places more. */
    private int[] fluxes(int odd, int off) {
        int[] rays = {0, 0, 0, 0, 0, 0, -1, -1, 1, 1};
        int[] places = new int[46];
        for (int i = 0; i < mirrors.size(); i++) {
            int[] m = mirrors.get(i);
            if (m[AIM] == -1) continue;
            int hit = m[AIM] + m[ERROR] - m[CORRECTION] + (i == odd ? off : 0);
            for (int ray : rays) places[hit + ray + 20] += powerOf(m) / 10;
        }
        return places;
    }

    private boolean lawful(int[] places) {
        for (int p = 0; p < 6; p++) if (places[p + 20] > bounds[p]) return false;
        return true;
    }

    private List<int[]> chosen(int set) {
        List<int[]> chosen = new ArrayList<>();
        for (int bit = 0; bit < 32; bit++) {
            if ((set >>> bit & 1) == 0) continue;
            argument(bit < mirrors.size());
            argument(mirrors.get(bit)[BROKEN] == 0);
            chosen.add(mirrors.get(bit));
        }
        argument(chosen.size() >= 1 && chosen.size() <= 4);
        return chosen;
    }

    /** The aims, and the sum behind them. */
    private int[] bestRow(List<int[]> chosen) {
        int[] aims = chosen.stream().mapToInt(m -> m[AIM]).toArray();
        int[] best = null;
        int[] row = new int[chosen.size()];
        Arrays.fill(row, -1);
        boolean more = true;
        while (more) {
            for (int k = 0; k < row.length; k++) chosen.get(k)[AIM] = row[k];
            int[] places = fluxes(-1, 0);
            int sum = Arrays.stream(places, 20, 26).sum();
            if (lawful(places) && (best == null || sum > best[row.length])) {
                best = Arrays.copyOf(row, row.length + 1);
                best[row.length] = sum;
            }
            int k = row.length - 1;
            while (k >= 0 && row[k] == 5) row[k--] = -1;
            more = k >= 0;
            if (more) row[k]++;
        }
        for (int k = 0; k < aims.length; k++) chosen.get(k)[AIM] = aims[k];
        state(best != null);
        return best;
    }

    private static int swap(int[] row, int at, int told) {
        int before = row[at];
        row[at] = told;
        return before;
    }

    private static void index(int at, int below) {
        if (at < 0 || at >= below) throw new IndexOutOfBoundsException();
    }

    private static void argument(boolean right) {
        if (!right) throw new IllegalArgumentException();
    }

    private static void state(boolean right) {
        if (!right) throw new IllegalStateException();
    }
}
