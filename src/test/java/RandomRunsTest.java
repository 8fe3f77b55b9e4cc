import java.lang.reflect.Modifier;
import java.util.ArrayList;
import java.util.Arrays;
import java.util.List;
import java.util.Random;

/** Long runs of calls by told seeds: each answer, and each exception, is the one of PlainModel. */
public final class RandomRunsTest {
    private static final int RUNS = 400, CALLS = 512;

    /** So many times 48 ticks, and the last tick is near. */
    private static final int ALMOST_ALL = 206;

    /** For each method how often it is called, and the least and the most of each of its numbers. */
    private static final Object[][] FACE = {
        {"mirror", 6, 0, 63}, {"drift", 8, 0, 11, -6, 6}, {"measure", 5, 0, 11}, {"correct", 6, 0, 11, -3, 3},
        {"aim", 30, 0, 11, -1, 5}, {"fail", 4, 0, 11}, {"wash", 6, 0, 11}, {"mirrorIs", 12, 0, 11, 0, 7},
        {"power", 10, 0, 11, 0, 24}, {"haze", 2, 0, 9}, {"cloud", 4, -16, 16, -16, 16, 1, 8, 1, 8, -1, 1, -1, 1},
        {"clear", 2}, {"bound", 6, 0, 5, 0, 9999}, {"flux", 8, 0, 5}, {"fluxAnew", 8, 0, 5}, {"strain", 4, 0, 5},
        {"isSafe", 8}, {"best", 6, 1, 4095, -1, 3}, {"bestAnew", 3, 1, 4095}, {"salt", 2, 1, 500}, {"pipe", 6},
        {"trace", 6}, {"load", 6, 1, 20}, {"stop", 2}, {"water", 4, 1, 500}, {"price", 6, 0, 23, 0, 99},
        {"firm", 6, 0, 23, 0, 200}, {"pass", 40, 1, 48}, {"plantIs", 12, 0, 10}, {"sum", 12, 0, 12}, {"kept", 3}};

    public static void main(String[] args) {
        wholeFace();
        for (int seed = 0; seed < RUNS; seed++) run(seed);
        Check.end("RandomRunsTest");
    }

    private static void wholeFace() {
        long methods = Arrays.stream(Heliokeep.class.getDeclaredMethods())
                .filter(m -> Modifier.isPublic(m.getModifiers())).count();
        Check.due("methods of the face", methods, FACE.length);
    }

    private static void run(int seed) {
        Random random = new Random(seed);
        Heliokeep x = new Heliokeep();
        PlainModel model = new PlainModel();
        int mirrors = random.nextInt(13);
        int passes = seed % 10 == 9 ? ALMOST_ALL : 0;
        for (int call = 0; call < CALLS; call++) {
            Object[] row = call < mirrors ? FACE[0] : drawn(random);
            Call drawn = new Call((String) row[0], arguments(row, random, mirrors, seed % 3 == 0));
            if (call >= mirrors && call < mirrors + passes) drawn = new Call("pass", 48);
            String want = drawn.answer(model).replace(" from elsewhere", "");
            Check.due("seed " + seed + ", call " + call + ": " + drawn, drawn.answer(x), want);
        }
    }

    private static Object[] drawn(Random random) {
        int all = Arrays.stream(FACE).mapToInt(row -> (Integer) row[1]).sum();
        int left = random.nextInt(all);
        for (Object[] row : FACE) {
            left -= (Integer) row[1];
            if (left < 0) return row;
        }
        return FACE[0];
    }

    private static Object[] arguments(Object[] row, Random random, int mirrors, boolean isSlow) {
        String name = (String) row[0];
        List<Object> told = new ArrayList<>();
        for (int k = 2; k < row.length; k += 2) {
            int least = (Integer) row[k];
            int most = (Integer) row[k + 1];
            boolean isMirror = k == 2 && most == 11;
            if (isMirror && mirrors > 0) most = mirrors - 1;
            told.add(number(random, least, most));
        }
        if (name.startsWith("best") && random.nextInt(12) > 0) told.set(0, set(random, mirrors));
        if (name.equals("bound") && random.nextInt(3) > 0) told.set(1, random.nextInt(3000));
        if (name.equals("pass") && random.nextInt(4) > 0) told.set(0, 1 + random.nextInt(isSlow ? 2 : 6));
        if (name.equals("haze") && random.nextInt(3) > 0) told.set(0, random.nextInt(3));
        if (name.equals("cloud") && random.nextInt(3) > 0) {
            told.set(0, random.nextInt(8));
            told.set(1, random.nextInt(8));
        }
        if (name.equals("firm") && random.nextInt(2) > 0) told.set(1, random.nextInt(40));
        if (name.equals("fail")) told.add(random.nextInt(3) == 0);
        if (name.equals("pipe")) told.add(random.nextInt(4) > 0);
        if (name.equals("trace")) told.add(random.nextInt(2) > 0);
        return told.toArray();
    }

    private static int number(Random random, int least, int most) {
        int odd = random.nextInt(60);
        if (odd == 0) return least - 1;
        if (odd == 1) return most + 1;
        if (odd == 2) return random.nextBoolean() ? Integer.MIN_VALUE : Integer.MAX_VALUE;
        return least + random.nextInt(most - least + 1);
    }

    private static int set(Random random, int mirrors) {
        int set = 0;
        int size = 1 + random.nextInt(4);
        for (int k = 0; k < size; k++) set |= 1 << random.nextInt(Math.max(1, mirrors));
        return set;
    }
}
