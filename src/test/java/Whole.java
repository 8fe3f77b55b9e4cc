import java.util.ArrayList;
import java.util.List;

/**
 * All that can be asked of an object, now and as ticks pass: two objects that were told the same answer the same.
 * It takes some 300 calls, and the object is of no use behind it.
 */
final class Whole {
    private final Heliokeep x;
    private final int mirrors;
    private final List<String> answers = new ArrayList<>();

    private Whole(Heliokeep x, int mirrors) {
        this.x = x;
        this.mirrors = mirrors;
    }

    static List<String> of(Heliokeep x, int mirrors) {
        Whole whole = new Whole(x, mirrors);
        whole.askNow();
        whole.askInTicks();
        whole.askErrors();
        return whole.answers;
    }

    static String firstDifference(List<String> got, List<String> want) {
        for (int k = 0; k < Math.max(got.size(), want.size()); k++) {
            String gotHere = k < got.size() ? got.get(k) : "nothing";
            String wantHere = k < want.size() ? want.get(k) : "nothing";
            if (!gotHere.equals(wantHere)) return gotHere + " in place of " + wantHere;
        }
        return "none";
    }

    private void note(String what, Object answer) {
        answers.add(what + " = " + answer);
    }

    private void askNow() {
        for (int what = 0; what < 11; what++) note("plantIs(" + what + ")", x.plantIs(what));
        askSums();
        note("isSafe()", x.isSafe());
        for (int panel = 0; panel < 6; panel++) {
            note("flux(" + panel + ")", x.flux(panel));
            note("strain(" + panel + ")", x.strain(panel));
            int bound = x.bound(panel, 0);
            x.bound(panel, bound);
            note("bound(" + panel + ")", bound);
        }
        int haze = x.haze(0);
        x.haze(haze);
        note("haze", haze);
        for (int hour = 0; hour < 24; hour++) {
            int price = x.price(hour, 0);
            x.price(hour, price);
            int firm = x.firm(hour, 0);
            x.firm(hour, firm);
            note("price and firm amount of the hour " + hour, price + ", " + firm);
        }
        for (int mirror = 0; mirror < mirrors; mirror++) {
            for (int what = 0; what < 8; what++) {
                note("mirrorIs(" + mirror + ", " + what + ")", x.mirrorIs(mirror, what));
            }
        }
    }

    private void askSums() {
        for (int what = 0; what < 13; what++) note("sum(" + what + ")", x.sum(what));
        note("kept()", x.kept());
    }

    /** The thaw of the pipe, the ticks that the turbine warms and the ways of the clouds are seen in time alone. */
    private void askInTicks() {
        for (int k = 0; k < 3 && x.plantIs(0) < 9999; k++) {
            x.pass(1);
            for (int what = 2; what < 9; what++) note("then plantIs(" + what + ")", x.plantIs(what));
            for (int mirror = 0; mirror < mirrors && mirror < 4; mirror++) {
                note("then mirrorIs(" + mirror + ", 5)", x.mirrorIs(mirror, 5));
            }
        }
        askSums();
    }

    /** An error is seen by a mirror in the sun alone. */
    private void askErrors() {
        note("clear()", x.clear());
        x.haze(0);
        if (x.plantIs(0) + 24 <= 9999) x.pass(24 - (x.plantIs(0) + 12) % 24);
        for (int mirror = 0; mirror < mirrors; mirror++) note("measure(" + mirror + ")", x.measure(mirror));
        note("mirror(0)", new Call("mirror", 0).answer(x));
    }
}
