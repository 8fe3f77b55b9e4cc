import java.util.ArrayList;

/** A field of mirrors that keep one spot of sun on a tower, and the plant that lives on its heat. */
public final class Heliokeep {
    public static final int NONE = -1, STOWED = -1;
    public static final int EMPTY = 0, FILLED = 1, PLUGGED = 2;
    public static final int STILL = 0, WARMING = 1, RUNS = 2;

    private static final int SIDE = 8, CELLS = 64, PANELS = 6, HOURS = 24, LAST_TICK = 9999;
    private static final int MOST_MIRRORS = 12, MOST_CLOUDS = 4, MOST_IN_SET = 4;
    private static final int MOST_ERROR = 3, MOST_DRIFT = 6, MOST_DIRT = 9, MOST_HAZE = 9, CLOUD_REACH = 16;
    private static final int MOST_BOUND = 9999, FIRST_BOUND = 3000;
    private static final int RAYS = 10, RAYS_AHEAD = 6, RAYS_ASIDE = 2;
    private static final int MOST_SALT = 1000, FIRST_SALT = 100, HEAT_OF_A_UNIT = 100, MOST_LOAD = 20;
    private static final int MOST_WATER = 1000, WATER_OF_A_WASH = 3, MOST_BROUGHT = 500;
    private static final int MOST_PRICE = 99, MOST_FIRM = 200, ENERGY_OF_TRACE = 2;
    private static final int MOST_PASSED = 48, MOST_AHEAD = 24;

    private static final int LIGHT = 0, MISSED = 1, LOST_BY_TRIP = 2, HEAT = 3, DUMPED = 4, SALT_HEATED = 5, MADE = 6,
            TRACED = 7, BOUGHT = 8, DELIVERED = 9, SHORT = 10, SOLD = 11, MONEY = 12, SUMS = 13;

    private static final int[] STRENGTHS = {0, 0, 0, 0, 0, 0, 1, 3, 5, 7, 9, 10, 10, 9, 7, 5, 3, 1, 0, 0, 0, 0, 0, 0};

    private final Field field;
    private final Light light;
    private final AimSearch search;
    private final int[] bounds;
    private final int[] strains;
    private int trips;
    private int cold;
    private int hot;
    private final Pipe pipe;
    private final Turbine turbine;
    private int water;
    private final int[] prices;
    private final int[] firms;
    private final long[] sums;

    public Heliokeep() {
        field = new Field();
        light = new Light();
        search = new AimSearch();
        bounds = new int[PANELS];
        for (int panel = 0; panel < PANELS; panel++) bounds[panel] = FIRST_BOUND;
        strains = new int[PANELS];
        cold = FIRST_SALT;
        pipe = new Pipe();
        turbine = new Turbine();
        prices = new int[HOURS];
        firms = new int[HOURS];
        sums = new long[SUMS];
    }

    // ---- mirrors

    public int mirror(int cell) throws IndexOutOfBoundsException, IllegalStateException {
        if (cell < 0 || cell >= CELLS) throw new IndexOutOfBoundsException("no such cell");
        if (field.isTaken(cell)) throw new IllegalStateException("a mirror is there");
        if (field.mirrors.size() >= MOST_MIRRORS) throw new IllegalStateException("no more mirrors");
        return field.put(cell);
    }

    public void drift(int mirror, int by) throws IndexOutOfBoundsException, IllegalArgumentException {
        Mirror told = theMirror(mirror);
        needWithin(by, -MOST_DRIFT, MOST_DRIFT);
        told.error = Math.max(-MOST_ERROR, Math.min(MOST_ERROR, told.error + by));
    }

    public int measure(int mirror) throws IndexOutOfBoundsException, IllegalStateException {
        Mirror asked = theMirror(mirror);
        if (field.powerBehind(asked, 0) == 0) throw new IllegalStateException("no power");
        return asked.awry();
    }

    public int correct(int mirror, int correction) throws IndexOutOfBoundsException, IllegalArgumentException {
        Mirror told = theMirror(mirror);
        needWithin(correction, -MOST_ERROR, MOST_ERROR);
        int before = told.correction;
        told.correction = correction;
        return before;
    }

    public int aim(int mirror, int aim)
            throws IndexOutOfBoundsException, IllegalArgumentException, IllegalStateException {
        Mirror told = theMirror(mirror);
        needWithin(aim, STOWED, PANELS - 1);
        if (told.broken) throw new IllegalStateException("the mirror is broken");
        int before = told.aim;
        told.aim = aim;
        return before;
    }

    public boolean fail(int mirror, boolean is) throws IndexOutOfBoundsException {
        Mirror told = theMirror(mirror);
        boolean before = told.broken;
        told.broken = is;
        return before;
    }

    public int wash(int mirror) throws IndexOutOfBoundsException, IllegalStateException {
        Mirror told = theMirror(mirror);
        if (field.strengthBehind(0) > 0) throw new IllegalStateException("the sun shines");
        if (water < WATER_OF_A_WASH) throw new IllegalStateException("too little water");
        water -= WATER_OF_A_WASH;
        int before = told.dirt;
        told.dirt = 0;
        return before;
    }

    public int mirrorIs(int mirror, int what) throws IndexOutOfBoundsException, IllegalArgumentException {
        Mirror asked = theMirror(mirror);
        switch (what) {
            case 0: return asked.cell;
            case 1: return asked.dirt;
            case 2: return asked.aim;
            case 3: return asked.correction;
            case 4: return asked.broken ? 1 : 0;
            case 5: return field.isCovered(asked, 0) ? 1 : 0;
            case 6: return field.isShaded(asked, 0) ? 1 : 0;
            case 7: return asked.distance();
            default: throw new IllegalArgumentException("nothing to tell by that number");
        }
    }

    public int power(int mirror, int ticks) throws IndexOutOfBoundsException, IllegalArgumentException {
        Mirror asked = theMirror(mirror);
        needWithin(ticks, 0, MOST_AHEAD);
        return field.powerBehind(asked, ticks);
    }

    // ---- sky

    public int haze(int haze) throws IllegalArgumentException {
        needWithin(haze, 0, MOST_HAZE);
        int before = field.haze;
        field.haze = haze;
        return before;
    }

    public int cloud(int row, int column, int rows, int columns, int down, int right)
            throws IllegalArgumentException, IllegalStateException {
        needWithin(row, -CLOUD_REACH, CLOUD_REACH);
        needWithin(column, -CLOUD_REACH, CLOUD_REACH);
        needWithin(rows, 1, SIDE);
        needWithin(columns, 1, SIDE);
        needWithin(down, -1, 1);
        needWithin(right, -1, 1);
        if (field.clouds.size() >= MOST_CLOUDS) throw new IllegalStateException("no more clouds");
        field.clouds.add(new Cloud(row, column, rows, columns, down, right));
        return field.clouds.size();
    }

    public int clear() {
        int before = field.clouds.size();
        field.clouds.clear();
        return before;
    }

    // ---- receiver

    public int bound(int panel, int bound) throws IndexOutOfBoundsException, IllegalArgumentException {
        needPanel(panel);
        needWithin(bound, 0, MOST_BOUND);
        int before = bounds[panel];
        bounds[panel] = bound;
        return before;
    }

    public int flux(int panel) throws IndexOutOfBoundsException {
        needPanel(panel);
        field.shineOn(light, 0);
        return light.fluxes[panel];
    }

    public int fluxAnew(int panel) throws IndexOutOfBoundsException {
        needPanel(panel);
        int flux = 0;
        for (int i = 0; i < field.mirrors.size(); i++) {
            Mirror mirror = field.mirrors.get(i);
            if (mirror.aim == STOWED) continue;
            int tenth = field.tenthOf(mirror);
            for (int ray = 0; ray < RAYS; ray++) {
                if (mirror.placeOf(ray) == panel) flux += tenth;
            }
        }
        return flux;
    }

    public int strain(int panel) throws IndexOutOfBoundsException {
        needPanel(panel);
        return strains[panel];
    }

    public boolean isSafe() {
        field.shineOn(light, 0);
        if (light.isAbove(bounds)) return false;
        for (int i = 0; i < field.mirrors.size(); i++) {
            Mirror mirror = field.mirrors.get(i);
            if (mirror.aim == STOWED) continue;
            int tenth = field.tenthOf(mirror);
            if (wouldTrip(mirror.place(), -1, tenth) || wouldTrip(mirror.place(), 1, tenth)) return false;
        }
        return true;
    }

    public int best(int set, int which) throws IllegalArgumentException, IllegalStateException {
        needSet(set);
        needWithin(which, NONE, Integer.bitCount(set) - 1);
        openSearch(set);
        if (!search.foundBest(bounds)) throw new IllegalStateException("no row is lawful");
        return which == NONE ? search.bestSum : search.bestAim(which);
    }

    public int bestAnew(int set) throws IllegalArgumentException, IllegalStateException {
        needSet(set);
        openSearch(set);
        int most = search.mostOfAllRows(bounds);
        if (most == NONE) throw new IllegalStateException("no row is lawful");
        return most;
    }

    // ---- plant

    public int salt(int units) throws IllegalArgumentException, IllegalStateException {
        needWithin(units, 1, MOST_BROUGHT);
        if (cold + hot + units > MOST_SALT) throw new IllegalStateException("too much salt");
        cold += units;
        return cold;
    }

    public int pipe(boolean isFilled) throws IllegalStateException {
        if (pipe.state == PLUGGED) throw new IllegalStateException("the pipe is plugged");
        if (isFilled == (pipe.state == FILLED)) throw new IllegalStateException("it is so already");
        if (isFilled) pipe.fill();
        else pipe.drain();
        return pipe.degrees;
    }

    public boolean trace(boolean is) {
        boolean before = pipe.traced;
        pipe.traced = is;
        return before;
    }

    public int load(int load) throws IllegalArgumentException {
        needWithin(load, 1, MOST_LOAD);
        int before = turbine.load;
        if (turbine.state == STILL) turbine.start();
        turbine.load = load;
        return before;
    }

    public int stop() throws IllegalStateException {
        if (turbine.state == STILL) throw new IllegalStateException("it is still");
        int before = turbine.state;
        turbine.halt();
        return before;
    }

    public int water(int units) throws IllegalArgumentException, IllegalStateException {
        needWithin(units, 1, MOST_BROUGHT);
        if (water + units > MOST_WATER) throw new IllegalStateException("too much water");
        water += units;
        return water;
    }

    public int price(int hour, int price) throws IndexOutOfBoundsException, IllegalArgumentException {
        needHour(hour);
        needWithin(price, 0, MOST_PRICE);
        int before = prices[hour];
        prices[hour] = price;
        return before;
    }

    public int firm(int hour, int amount) throws IndexOutOfBoundsException, IllegalArgumentException {
        needHour(hour);
        needWithin(amount, 0, MOST_FIRM);
        int before = firms[hour];
        firms[hour] = amount;
        return before;
    }

    public int pass(int ticks) throws IllegalArgumentException, IllegalStateException {
        needWithin(ticks, 1, MOST_PASSED);
        if (field.tick + ticks > LAST_TICK) throw new IllegalStateException("beyond the last tick");
        for (int i = 0; i < ticks; i++) takeTick();
        return field.tick;
    }

    public int plantIs(int what) throws IllegalArgumentException {
        switch (what) {
            case 0: return field.tick;
            case 1: return field.strengthBehind(0);
            case 2: return cold;
            case 3: return hot;
            case 4: return pipe.degrees;
            case 5: return pipe.state;
            case 6: return pipe.traced ? 1 : 0;
            case 7: return turbine.state;
            case 8: return turbine.load;
            case 9: return water;
            case 10: return trips;
            default: throw new IllegalArgumentException("nothing to tell by that number");
        }
    }

    public long sum(int what) throws IllegalArgumentException {
        needWithin(what, 0, SUMS - 1);
        return sums[what];
    }

    public float kept() {
        if (sums[HEAT] == 0) return 0.0f;
        return (float) (sums[HEAT] - sums[DUMPED]) / (float) sums[HEAT];
    }

    // ---- what the calls need

    private Mirror theMirror(int mirror) {
        if (mirror < 0 || mirror >= field.mirrors.size()) throw new IndexOutOfBoundsException("no such mirror");
        return field.mirrors.get(mirror);
    }

    private static void needPanel(int panel) {
        if (panel < 0 || panel >= PANELS) throw new IndexOutOfBoundsException("no such panel");
    }

    private static void needHour(int hour) {
        if (hour < 0 || hour >= HOURS) throw new IndexOutOfBoundsException("no such hour");
    }

    private static void needWithin(int value, int least, int most) {
        if (value < least || value > most) throw new IllegalArgumentException("out of range");
    }

    private void needSet(int set) {
        if (set <= 0 || set >= 1 << field.mirrors.size()) throw new IllegalArgumentException("no such set");
        if (Integer.bitCount(set) > MOST_IN_SET) throw new IllegalArgumentException("too many in the set");
        for (int i = 0; i < field.mirrors.size(); i++) {
            if (isIn(set, i) && field.mirrors.get(i).broken) throw new IllegalArgumentException("one is broken");
        }
    }

    private static boolean isIn(int set, int mirror) {
        return (set >> mirror & 1) == 1;
    }

    private boolean wouldTrip(int place, int aside, int tenth) {
        light.shine(place, -tenth);
        light.shine(place + aside, tenth);
        boolean isAbove = light.isAbove(bounds);
        light.shine(place + aside, -tenth);
        light.shine(place, tenth);
        return isAbove;
    }

    private void openSearch(int set) {
        search.open();
        field.shineOn(search.light, set);
        for (int i = 0; i < field.mirrors.size(); i++) {
            Mirror mirror = field.mirrors.get(i);
            if (isIn(set, i)) search.add(field.tenthOf(mirror), mirror.awry());
        }
    }

    // ---- the steps of a tick

    private void takeTick() {
        field.shineOn(light, 0);
        int heat = receiveHeat();
        int units = moveSaltToHot(heat);
        pipe.takeTick(units > 0);
        int made = makeEnergy();
        int left = made - payForTrace(made);
        shareEnergy(left);
        field.endTick();
    }

    private int receiveHeat() {
        int fallen = light.onPanels();
        sums[LIGHT] += fallen + light.missed;
        sums[MISSED] += light.missed;
        if (light.isAbove(bounds)) {
            trip();
            sums[LOST_BY_TRIP] += fallen;
            return 0;
        }
        sums[HEAT] += fallen;
        return fallen;
    }

    private void trip() {
        trips++;
        for (int panel = 0; panel < PANELS; panel++) {
            if (light.fluxes[panel] > bounds[panel]) strains[panel]++;
        }
        field.stowWhole();
    }

    private int moveSaltToHot(int heat) {
        int units = pipe.state == FILLED ? Math.min(heat / HEAT_OF_A_UNIT, cold) : 0;
        cold -= units;
        hot += units;
        sums[SALT_HEATED] += units;
        sums[DUMPED] += heat - units * HEAT_OF_A_UNIT;
        return units;
    }

    private int makeEnergy() {
        int units = turbine.takeTick(hot);
        hot -= units;
        cold += units;
        int made = units * (10 - field.strengthBehind(0) / 5);
        sums[MADE] += made;
        return made;
    }

    private int payForTrace(int made) {
        int wanted = pipe.traced ? ENERGY_OF_TRACE : 0;
        int paid = Math.min(wanted, made);
        sums[TRACED] += wanted;
        sums[BOUGHT] += wanted - paid;
        return paid;
    }

    private void shareEnergy(int left) {
        int hour = field.hourBehind(0);
        int delivered = Math.min(firms[hour], left);
        int sold = left - delivered;
        sums[DELIVERED] += delivered;
        sums[SHORT] += firms[hour] - delivered;
        sums[SOLD] += sold;
        sums[MONEY] += sold * prices[hour];
    }

    /** Where rays go: the flux of each panel, and what is missed. */
    private static final class Light {
        final int[] fluxes = new int[PANELS];
        int missed;

        void darken() {
            for (int panel = 0; panel < fluxes.length; panel++) fluxes[panel] = 0;
            missed = 0;
        }

        /** The light of a mirror that hits a place; less than none takes it away again. */
        void shine(int place, int tenth) {
            reach(place, RAYS_AHEAD * tenth);
            reach(place - 1, RAYS_ASIDE * tenth);
            reach(place + 1, RAYS_ASIDE * tenth);
        }

        private void reach(int place, int amount) {
            if (place >= 0 && place < fluxes.length) fluxes[place] += amount;
            else missed += amount;
        }

        int onPanels() {
            int all = 0;
            for (int panel = 0; panel < fluxes.length; panel++) all += fluxes[panel];
            return all;
        }

        boolean isAbove(int[] bounds) {
            for (int panel = 0; panel < fluxes.length && panel < bounds.length; panel++) {
                if (fluxes[panel] > bounds[panel]) return true;
            }
            return false;
        }
    }

    private static final class Mirror {
        final int cell;
        final int row;
        final int column;
        int dirt;
        int aim = STOWED;
        int error;
        int correction;
        boolean broken;

        Mirror(int cell) {
            this.cell = cell;
            row = cell / SIDE;
            column = cell % SIDE;
        }

        int distance() {
            return row + 1 + Math.abs(column - 3);
        }

        int awry() {
            return error - correction;
        }

        int place() {
            return aim + awry();
        }

        int placeOf(int ray) {
            if (ray < RAYS_AHEAD) return place();
            return ray < RAYS_AHEAD + RAYS_ASIDE ? place() - 1 : place() + 1;
        }
    }

    private static final class Cloud {
        private int row;
        private int column;
        private final int rows;
        private final int columns;
        private final int down;
        private final int right;

        Cloud(int row, int column, int rows, int columns, int down, int right) {
            this.row = row;
            this.column = column;
            this.rows = rows;
            this.columns = columns;
            this.down = down;
            this.right = right;
        }

        boolean isOver(Mirror mirror, int ticks) {
            int below = mirror.row - (row + down * ticks);
            int beside = mirror.column - (column + right * ticks);
            return below >= 0 && below < rows && beside >= 0 && beside < columns;
        }

        void move() {
            row += down;
            column += right;
        }
    }

    /** The mirrors with the sun and the sky above them, now or behind some ticks. */
    private static final class Field {
        final ArrayList<Mirror> mirrors = new ArrayList<Mirror>();
        final ArrayList<Cloud> clouds = new ArrayList<Cloud>();
        private final boolean[] taken = new boolean[CELLS];
        int tick;
        int haze;

        boolean isTaken(int cell) {
            return cell >= 0 && cell < taken.length && taken[cell];
        }

        int put(int cell) {
            if (cell >= 0 && cell < taken.length) taken[cell] = true;
            mirrors.add(new Mirror(cell));
            return mirrors.size() - 1;
        }

        // Ticks are never below 0: the hour is looked at all the same, as rows are read by it.
        int hourBehind(int ticks) {
            int hour = (tick + ticks) % HOURS;
            return hour < 0 ? 0 : hour;
        }

        int strengthBehind(int ticks) {
            return STRENGTHS[hourBehind(ticks)];
        }

        private int dirtBehind(Mirror mirror, int ticks) {
            int midnights = (tick + ticks) / HOURS - tick / HOURS;
            return Math.min(MOST_DIRT, mirror.dirt + midnights);
        }

        boolean isCovered(Mirror mirror, int ticks) {
            for (int i = 0; i < clouds.size(); i++) {
                if (clouds.get(i).isOver(mirror, ticks)) return true;
            }
            return false;
        }

        boolean isShaded(Mirror mirror, int ticks) {
            int hour = hourBehind(ticks);
            if (STRENGTHS[hour] > 3) return false;
            int beside = hour < 12 ? mirror.column + 1 : mirror.column - 1;
            return beside >= 0 && beside < SIDE && isTaken(mirror.row * SIDE + beside);
        }

        int powerBehind(Mirror mirror, int ticks) {
            if (isCovered(mirror, ticks) || isShaded(mirror, ticks)) return 0;
            int clean = 10 - dirtBehind(mirror, ticks);
            return strengthBehind(ticks) * (10 - haze) * clean * (20 - mirror.distance()) / 20;
        }

        int tenthOf(Mirror mirror) {
            return powerBehind(mirror, 0) / RAYS;
        }

        /** The light of all mirrors but a set, given by bits: those whose aims are still sought. */
        void shineOn(Light light, int setLeftOut) {
            light.darken();
            for (int i = 0; i < mirrors.size(); i++) {
                Mirror mirror = mirrors.get(i);
                if (mirror.aim != STOWED && !isIn(setLeftOut, i)) light.shine(mirror.place(), tenthOf(mirror));
            }
        }

        void stowWhole() {
            for (int i = 0; i < mirrors.size(); i++) {
                Mirror mirror = mirrors.get(i);
                if (!mirror.broken) mirror.aim = STOWED;
            }
        }

        void endTick() {
            for (int i = 0; i < clouds.size(); i++) clouds.get(i).move();
            for (int i = 0; i < mirrors.size(); i++) {
                Mirror mirror = mirrors.get(i);
                mirror.dirt = dirtBehind(mirror, 1);
            }
            tick++;
        }
    }

    /** Seeks the best lawful aims of some mirrors, with the light of all others as it is. */
    private static final class AimSearch {
        private static final int AIMS = PANELS + 1;

        final Light light = new Light();
        private final int[] tenths = new int[MOST_IN_SET];
        private final int[] awry = new int[MOST_IN_SET];
        private final int[] row = new int[MOST_IN_SET];
        private final int[] bestRow = new int[MOST_IN_SET];
        private int size;
        int bestSum;

        void open() {
            size = 0;
        }

        void add(int tenth, int awryBy) {
            if (size >= MOST_IN_SET) return;
            tenths[size] = tenth;
            awry[size] = awryBy;
            size++;
        }

        int bestAim(int which) {
            return which >= 0 && which < size ? bestRow[which] : STOWED;
        }

        boolean foundBest(int[] bounds) {
            bestSum = NONE;
            if (!light.isAbove(bounds)) seekFrom(0, bounds);
            return bestSum != NONE;
        }

        // The aims are tried in their order and only a greater sum is taken: the first of several best rows stays.
        private void seekFrom(int depth, int[] bounds) {
            int sum = light.onPanels();
            if (sum + mostFrom(depth) <= bestSum) return;
            if (depth >= size) {
                bestSum = sum;
                for (int k = 0; k < size; k++) bestRow[k] = row[k];
                return;
            }
            for (int aim = STOWED; aim < PANELS; aim++) tryAim(depth, aim, bounds);
        }

        // A panel above its bound stays above it with more light: no row that goes on from there is lawful.
        private void tryAim(int depth, int aim, int[] bounds) {
            if (depth < 0 || depth >= MOST_IN_SET) return;
            row[depth] = aim;
            shine(depth, aim, 1);
            if (!light.isAbove(bounds)) seekFrom(depth + 1, bounds);
            shine(depth, aim, -1);
        }

        private int mostFrom(int depth) {
            int most = 0;
            for (int k = depth; k < size; k++) most += RAYS * tenths[k];
            return most;
        }

        /** Returns NONE if no row is lawful. */
        int mostOfAllRows(int[] bounds) {
            int rows = 1;
            for (int k = 0; k < size; k++) {
                rows *= AIMS;
                row[k] = STOWED;
            }
            int most = NONE;
            for (int number = 0; number < rows; number++) {
                if (!light.isAbove(bounds)) most = Math.max(most, light.onPanels());
                turnRow();
            }
            return most;
        }

        // As a counter goes on, the last aim first: behind the last row all are stowed again.
        private void turnRow() {
            for (int k = size - 1; k >= 0; k--) {
                shine(k, row[k], -1);
                row[k] = row[k] < PANELS - 1 ? row[k] + 1 : STOWED;
                shine(k, row[k], 1);
                if (row[k] != STOWED) return;
            }
        }

        private void shine(int which, int aim, int sign) {
            if (aim != STOWED) light.shine(aim + awry[which], sign * tenths[which]);
        }
    }

    private static final class Pipe {
        private static final int FIRST = 30, MOST = 40, WARMER = 5, COLDER = 2, TRACED_LEAST = 22, FREEZING = 20;
        private static final int THAWED = 3;

        int state = EMPTY;
        int degrees;
        boolean traced;
        private int thaw;

        void fill() {
            state = FILLED;
            degrees = FIRST;
        }

        void drain() {
            state = EMPTY;
            degrees = 0;
        }

        void takeTick(boolean saltCame) {
            if (state == PLUGGED) thawOn();
            else if (state == FILLED) change(saltCame);
        }

        private void thawOn() {
            thaw = traced ? thaw + 1 : 0;
            if (thaw < THAWED) return;
            state = FILLED;
            degrees = TRACED_LEAST;
        }

        private void change(boolean saltCame) {
            degrees = saltCame ? Math.min(MOST, degrees + WARMER) : degrees - COLDER;
            if (traced) degrees = Math.max(TRACED_LEAST, degrees);
            if (degrees >= FREEZING) return;
            state = PLUGGED;
            thaw = 0;
        }
    }

    private static final class Turbine {
        private static final int WARMING_TICKS = 2;

        int state = STILL;
        int load;
        private int ticksLeft;

        void start() {
            state = WARMING;
            ticksLeft = WARMING_TICKS;
        }

        void halt() {
            state = STILL;
            load = 0;
        }

        int takeTick(int hot) {
            if (state == RUNS) return Math.min(load, hot);
            if (state == WARMING) warm();
            return 0;
        }

        private void warm() {
            ticksLeft--;
            if (ticksLeft <= 0) state = RUNS;
        }
    }
}
