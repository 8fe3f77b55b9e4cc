import java.util.List;

/** Plants in which calls are refused for one reason or another. */
enum Plant {
    NEW(0) {
        @Override
        Heliokeep make() {
            return new Heliokeep();
        }
    },

    /** At noon: the mirror 1 is broken and above a bound, the mirror 2 covered; the turbine has a tick to warm. */
    NOON(4) {
        @Override
        Heliokeep make() {
            Heliokeep x = Check.plant(33, 3, 60, 11, 4);
            int[] errors = {2, -1, 1, -3};
            for (int mirror = 0; mirror < 4; mirror++) x.drift(mirror, errors[mirror]);
            x.correct(0, 1);
            x.haze(1);
            x.water(20);
            x.salt(7);
            x.pipe(true);
            for (int mirror = 0; mirror < 3; mirror++) x.aim(mirror, 4 - mirror);
            x.pass(1);
            x.load(8);
            x.fail(1, true);
            x.bound(2, 100);
            x.pass(1);
            x.aim(0, 3);
            x.aim(2, 5);
            x.cloud(1, 3, 1, 1, 1, 0);
            x.price(11, 7);
            x.price(13, 9);
            x.firm(12, 30);
            x.firm(13, 3);
            return x;
        }
    },

    /** By night: the pipe is plugged, with one more tick to thaw, the turbine runs, and water for a wash is lacking. */
    NIGHT(4) {
        @Override
        Heliokeep make() {
            Heliokeep x = Check.plant(13, 3, 60, 11, 4);
            for (int mirror = 0; mirror < 4; mirror++) x.aim(mirror, mirror + 1);
            x.pipe(true);
            x.pass(5);
            x.pipe(false);
            x.pipe(true);
            x.load(3);
            x.pass(6);
            x.trace(true);
            x.pass(2);
            x.water(2);
            x.price(2, 4);
            x.firm(3, 40);
            x.firm(4, 11);
            x.drift(2, -2);
            return x;
        }
    },

    /** By night, with all the mirrors, clouds, salt and water that there can be. */
    FULL(12) {
        @Override
        Heliokeep make() {
            Heliokeep x = new Heliokeep();
            for (int mirror = 0; mirror < 12; mirror++) x.mirror(5 * mirror + 1);
            for (int cloud = 0; cloud < 4; cloud++) x.cloud(cloud - 2, 2 * cloud, 2, 3, 1, cloud % 2 == 0 ? 1 : -1);
            x.salt(500);
            x.salt(400);
            x.water(500);
            x.water(500);
            return x;
        }
    },

    /** At the last tick. */
    LAST(2) {
        @Override
        Heliokeep make() {
            Heliokeep x = Check.plant(9997, 3, 11);
            x.aim(0, 2);
            x.pipe(true);
            x.load(5);
            x.pass(2);
            x.drift(1, 3);
            return x;
        }
    };

    private final int mirrors;
    private List<String> untouched;

    Plant(int mirrors) {
        this.mirrors = mirrors;
    }

    abstract Heliokeep make();

    int mirrors() {
        return mirrors;
    }

    /** What it answers if nothing is told to it. */
    List<String> untouched() {
        if (untouched == null) untouched = Whole.of(make(), mirrors);
        return untouched;
    }
}
