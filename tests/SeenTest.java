/** Promises 26 to 30: what is seen, how it can have come about, what is amiss. */
public final class SeenTest extends Checks {
    private static final String TWO = "t0,0,0123;t0,0,0123;p0;p1;p01;p1;l1;";

    public static void main(String[] args) {
        seeAndForget();
        ways();
        mostWays();
        lies();
        amiss();
        end("seen");
    }

    private static void seeAndForget() {
        TurnedTablets x = loom(TWO);
        due("forget() of none", x.forget(), 0);
        int[] none = {-1, 100, 1000000, Integer.MIN_VALUE, Integer.MAX_VALUE};
        for (int colours : none) {
            due("see(" + colours + ")", x.see(colours), -1);
        }
        due("count(6)", x.count(6), 0);
        int[] some = {0, 99, 1, 11, 11, 50};
        for (int i = 0; i < 6; i++) {
            due("see(" + some[i] + ")", x.see(some[i]), i + 1);
            due("count(6)", x.count(6), i + 1);
        }
        due("see(0), full", x.see(0), -3);
        for (int colours : none) {
            due("see(" + colours + "), full", x.see(colours), -1);
        }
        due("count(6)", x.count(6), 6);
        due("undo(): what is seen is not undone", x.undo(), -2);
        due("forget()", x.forget(), 6);
        due("count(6)", x.count(6), 0);
        due("forget() again", x.forget(), 0);
        due("see(7)", x.see(7), 1);
        x.keep();
        x.see(8);
        x.back();
        due("count(6) behind back()", x.count(6), 2);
        x.weave(0, 0);
        x.undo();
        due("count(6) behind undo()", x.count(6), 2);
        due("see(999999) of six", new TurnedTablets().see(999999), 1);
        due("see(1000000) of six", new TurnedTablets().see(1000000), -1);
        due("see(10) of one", loom("t0,0,0123;p0;").see(10), -1);
        due("see(9) of one", loom("t0,0,0123;p0;").see(9), 1);
    }

    private static String seeAll(TurnedTablets x, int... seen) {
        x.forget();
        StringBuilder told = new StringBuilder("seen");
        for (int i = 0; i < seen.length; i++) {
            due("see(" + seen[i] + ")", x.see(seen[i]), i + 1);
            told.append(' ').append(seen[i]);
        }
        return told.toString();
    }

    private static void ways(TurnedTablets x, int want, int... seen) {
        String told = seeAll(x, seen);
        int top = x.top(0);
        due("ways() of " + told, x.ways(), want);
        due("top(0) behind ways()", x.top(0), top);
        due("count(6) behind ways()", x.count(6), seen.length);
    }

    private static void ways() {
        TurnedTablets x = loom(TWO);
        ways(x, 1);
        ways(x, 2, 1);
        ways(x, 2, 1, 11);
        ways(x, 2, 3);
        ways(x, 1, 10);
        ways(x, 1, 11);
        ways(x, 0, 1, 11, 11);
        ways(x, 0, 0);
        ways(x, 0, 12);
        ways(x, 4, 1, 2);
        ways(x, 16, 1, 2, 3, 0);
        ways(x, 1, 11, 22, 33, 0, 11, 22);
        ways(x, 64, 1, 2, 3, 0, 1, 2);
        ways(x, 0, 99);
        x.weave(0, 0);
        ways(x, 1);
        ways(x, 1, 0);
        ways(x, 2, 11);
        ways(x, 0, 10);
        ways(x, 1, 20);
        ways(loom("t1,0,0123;p0;l1;"), 2, 2);
        ways(loom("t1,0,0123;p0;l1;"), 4, 2, 0);
        ways(loom("t2,0,0123;p0;"), 1, 3);
        ways(loom("t3,0,0123;p0;"), 1, 0);
        ways(loom("t3,0,0123;p0;"), 1, 0, 0, 1, 1, 2);
        ways(loom("t3,0,0123;p0;"), 0, 3);
        ways(loom("t0,0,0101;p0;"), 2, 1);
        ways(loom("t0,0,0101;p0;"), 8, 1, 0, 1);
        ways(loom("t0,0,0001;p0;"), 1, 0);
        ways(loom("t0,0,0001;p0;"), 2, 0, 0);
        ways(loom("t0,0,0001;p0;"), 2, 0, 0, 1);
        ways(loom("t0,0,0001;p0;"), 0, 0, 1);
    }

    private static void mostWays() {
        TurnedTablets x = loom("t1,0,0000;p0;p0;p0;p0;p0;p0;");
        ways(x, 12, 0);
        ways(x, 144, 0, 0);
        ways(x, 12 * 12 * 12 * 12 * 12 * 12, 0, 0, 0, 0, 0, 0);
        ways(loom("t0,0,0000;p0;p0;p0;p0;p0;"), 1000000, 0, 0, 0, 0, 0, 0);
    }

    private static void lies(TurnedTablets x, int want, int... seen) {
        String told = seeAll(x, seen);
        due("lies() of " + told, x.lies(), want);
        x.weave(0, 0);
        x.turn(0, 0);
        due("lies() of " + told + " wherever the holes are now", x.lies(), want);
        due("count(6) behind lies()", x.count(6), seen.length);
    }

    private static void lies() {
        String one = "t0,0,0123;p0;l1;";
        lies(loom(one), 4);
        lies(loom(one), 2, 1);
        lies(loom(one), 2, 1, 2);
        lies(loom(one), 2, 1, 2, 3, 0, 1, 2);
        lies(loom(one), 0, 1, 3);
        lies(loom(one), 0, 4);
        lies(loom("t0,0,0011;p0;"), 4, 0);
        lies(loom("t0,0,0011;p0;"), 4, 0, 0);
        lies(loom("t0,0,0001;p0;"), 2, 1);
        lies(loom("t0,0,0001;p0;"), 2, 1, 0);
        lies(loom("t0,0,0001;p0;"), 4, 0);
        lies(loom("t0,0,0001;p0;"), 4, 0, 0, 0);
        lies(loom("t1,0,0123;p0;l1;"), 1, 1);
        lies(loom("t1,0,0123;p0;l1;"), 1, 3, 1);
        lies(loom("t1,0,0123;p0;l1;"), 0, 3, 2);
        lies(loom("t2,0,0123;p0;"), 2, 0);
        lies(loom("t3,0,0123;p0;"), 2, 0);
        lies(loom("t3,0,0123;p0;"), 2, 0, 0);
        lies(loom("t3,0,0123;p0;"), 0, 1, 0);
        lies(loom("t3,0,0123;p0;"), 2, 0, 1);
        lies(loom("t0,0,0123;t0,0,0011;p0;"), 16);
        lies(loom("t0,0,0123;t0,0,0011;p0;"), 4, 10);
        lies(loom("t0,0,0123;t0,0,0011;p0;"), 4, 11);
        lies(loom("t0,0,0123;t0,0,0011;p0;"), 0, 11, 20);
        lies(loom("t0,0,0123;t0,0,0123;p01;"), 2, 12, 23);
        lies(loom("t0,0,0123;t2,0,0123;p01;"), 2, 12, 21);
        TurnedTablets six = new TurnedTablets();
        due("lies() of six", six.lies(), 4096);
        TurnedTablets three = loom("t0,0,0123;t0,0,0123;t0,0,0123;p012;");
        due("lies() of three", three.lies(), 64);
    }

    private static void amiss() {
        TurnedTablets x = loom("t0,0,0123;t0,0,0112;p01;");
        due("amiss(0)", x.amiss(0), 0);
        due("amiss(10)", x.amiss(10), 1);
        due("amiss(30)", x.amiss(30), 64);
        due("amiss(1)", x.amiss(1), 2);
        due("amiss(2)", x.amiss(2), 128);
        due("amiss(11)", x.amiss(11), 0);
        due("amiss(20)", x.amiss(20), 0);
        due("amiss(99)", x.amiss(99), 0);
        int[] none = {-1, 100, 1000000, Integer.MIN_VALUE, Integer.MAX_VALUE};
        for (int colours : none) {
            due("amiss(" + colours + ")", x.amiss(colours), -1);
        }
        x.weave(0, 0);
        due("amiss(11): the next has the same colour", x.amiss(11), 2);
        due("amiss(10)", x.amiss(10), 128);
        due("amiss(1)", x.amiss(1), 64);
        due("amiss(21)", x.amiss(21), 1);
        due("top(0) behind amiss()", x.top(0), 11);
        TurnedTablets y = loom("t3,0,0012;t1,0,1011;t2,0,0123;p0;p1;p2;l1;");
        due("amiss(10): on top now", y.amiss(10), 129);
        due("amiss(210): a lame one back", y.amiss(210), 64);
        due("amiss(0): a double one by one", y.amiss(0), 2);
        due("amiss(11): a contrary one", y.amiss(11), 4);
        due("amiss(13): a contrary one", y.amiss(13), 256);
        y.turn(2, 1);
        due("amiss(12): the twist is not asked", y.amiss(12), 4);
        due("amiss(10)", y.amiss(10), 256);
        TurnedTablets z = loom("t0,0,0000;t0,0,0000;t0,0,0000;t0,0,0000;t0,0,0000;t0,0,0000;p0;");
        due("amiss(0) of all", z.amiss(0), 4095);
    }
}
