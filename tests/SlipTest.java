/** Promises 31 to 35: slips by chance, bands by draws, looms kept, counts. */
public final class SlipTest extends Checks {
    private static final int[] ODD = {-1, -2, Integer.MIN_VALUE, Integer.MAX_VALUE};
    private static final String KINDS = "t0,0,0123;t1,0,0123;t2,0,0123;t3,0,0123;p0123;p02;p13;l3;";

    public static void main(String[] args) {
        slips();
        slipsWrong();
        bandsByHand();
        bandsOfKinds();
        bandsWrong();
        keepAndBack();
        backBringsAll();
        backBringsRows();
        counts();
        end("slips, bands");
    }

    private static void slips(TurnedTablets x, int p, int way, int chance, int above, int below) {
        String call = "slips(" + p + ", " + way + ", " + chance + ", ";
        due(call + "0)", x.slips(p, way, chance, 0), above);
        due(call + "1)", x.slips(p, way, chance, 1), below);
    }

    private static void slips() {
        TurnedTablets x = loom("t0,0,0123;t0,0,0012;t3,0,0123;p012;p0;p1;l1;");
        slips(x, 0, 0, 3, 49, 100);
        slips(x, 0, 0, 0, 1, 1);
        slips(x, 0, 0, 10, 0, 1);
        slips(x, 0, 0, 5, 1, 4);
        slips(x, 0, 0, 2, 16, 25);
        slips(x, 0, 0, 9, 1, 100);
        slips(x, 0, 1, 3, 49, 100);
        slips(x, 1, 0, 1, 9, 10);
        slips(x, 1, 1, 4, 3, 5);
        slips(x, 2, 0, 4, 1, 1);
        slips(x, 2, 0, 10, 1, 1);
        slips(x, 2, 1, 4, 3, 5);
        x.weave(0, 0);
        slips(x, 0, 0, 3, 1, 1);
        slips(x, 0, 0, 10, 1, 1);
        slips(x, 0, 1, 3, 7, 10);
        due("top(0) behind slips()", x.top(0), 101);
        due("count(7) behind slips()", x.count(7), 1);
        TurnedTablets y = loom("t1,0,0102;p0;l1;");
        slips(y, 0, 0, 3, 1, 1);
        TurnedTablets z = loom("t1,0,0110;p0;t2,0,0012;p1;");
        slips(z, 0, 0, 3, 7, 10);
        slips(z, 1, 0, 3, 7, 10);
        slips(z, 1, 1, 3, 1, 1);
        TurnedTablets six = loom("t0,0,0123;t0,0,0123;t0,0,0123;t0,0,0123;t0,0,0123;t0,0,0123;p012345;");
        slips(six, 0, 0, 3, 117649, 1000000);
        slips(six, 0, 1, 4, 729, 15625);
        slips(six, 0, 1, 9, 1, 1000000);
        slips(six, 0, 1, 10, 0, 1);
        slips(six, 0, 1, 0, 1, 1);
    }

    private static void slipsWrong() {
        TurnedTablets x = loom("t0,0,0123;p0;p0;");
        for (int n : ODD) {
            due("slips(" + n + ", 0, 0, 0)", x.slips(n, 0, 0, 0), -1);
            due("slips(0, " + n + ", 0, 0)", x.slips(0, n, 0, 0), -1);
            due("slips(0, 0, " + n + ", 0)", x.slips(0, 0, n, 0), -1);
            due("slips(0, 0, 0, " + n + ")", x.slips(0, 0, 0, n), -1);
        }
        due("slips(2, 0, 0, 0)", x.slips(2, 0, 0, 0), -1);
        due("slips(0, 2, 0, 0)", x.slips(0, 2, 0, 0), -1);
        due("slips(0, 0, 11, 0)", x.slips(0, 0, 11, 0), -1);
        due("slips(0, 0, 0, 2)", x.slips(0, 0, 0, 2), -1);
    }

    private static void bands(TurnedTablets x, int z, int n, int rows, int jams) {
        due("bands(" + z + ", " + n + ", 0)", x.bands(z, n, 0), rows);
        due("bands(" + z + ", " + n + ", 1)", x.bands(z, n, 1), jams);
    }

    /** Draws of z = 0: 1, 41487 (cut), 10299, 37479 (cut), 57506, 4859 (back); of z = 13 the first combs. */
    private static void bandsByHand() {
        TurnedTablets x = loom("t0,0,0123;p0;l1;");
        int[] rows = {1, 1, 2, 2, 3, 4};
        int[] jams = {0, 0, 1, 1, 2, 2};
        for (int n = 1; n <= 6; n++) {
            bands(x, 0, n, rows[n - 1], jams[n - 1]);
        }
        bands(x, 13, 2, 1, 0);
        x.weave(0, 1);
        bands(x, 0, 1, 1, 0);
        bands(x, 0, 3, 2, 0);
        bands(x, 0, 5, 3, 1);
        bands(x, 13, 1, 0, 0);
        bands(x, 13, 2, 1, 0);
        bands(x, 13, 3, 2, 0);
        for (int k = 1; k < 24; k++) {
            x.weave(0, 1);
        }
        bands(x, 0, 1, 0, 0);
        bands(x, 0, 2, 0, 0);
        bands(x, 0, 3, 1, 0);
        bands(x, 0, 5, 2, 0);
    }

    /** The answers are from a reckoning apart from the program. */
    private static void bandsOfKinds() {
        TurnedTablets x = loom(KINDS);
        int[] z = {0, 1, 7, 123, 9999, 5000};
        int[] n = {10, 30, 60};
        int[][] rows = {{8, 23, 46}, {9, 26, 49}, {8, 20, 44}, {9, 23, 48}, {7, 20, 42}, {8, 23, 47}};
        int[][] jams = {{7, 17, 26}, {6, 13, 33}, {1, 3, 22}, {7, 10, 21}, {2, 10, 24}, {3, 10, 24}};
        int[][] fullRows = {{7, 22, 45}, {0, 15, 38}, {6, 18, 42}, {0, 14, 39}, {7, 20, 42}, {4, 19, 43}};
        int[][] fullJams = {{13, 23, 32}, {0, 5, 25}, {4, 7, 26}, {0, 1, 12}, {1, 5, 19}, {1, 7, 21}};
        for (int i = 0; i < z.length; i++) {
            for (int j = 0; j < n.length; j++) {
                bands(x, z[i], n[j], rows[i][j], jams[i][j]);
            }
        }
        due("count(4): nothing changes", x.count(4), 0);
        due("count(7): nothing changes", x.count(7), 0);
        due("tablet(1, 4): nothing changes", x.tablet(1, 4), 40);
        for (int k = 0; k < 24; k++) {
            x.weave(0, 0);
        }
        for (int i = 0; i < z.length; i++) {
            for (int j = 0; j < n.length; j++) {
                bands(x, z[i], n[j], fullRows[i][j], fullJams[i][j]);
            }
        }
        int[] twists = {43, 42, 37, 43};
        int[] floats = {21, 23, 21, 21};
        for (int t = 0; t < 4; t++) {
            due("tablet(" + t + ", 4): nothing changes", x.tablet(t, 4), twists[t]);
            due("tablet(" + t + ", 5): nothing changes", x.tablet(t, 5), floats[t]);
        }
        due("count(4): nothing changes", x.count(4), 24);
        due("count(7): nothing changes", x.count(7), 8);
        due("row(2, 0): nothing changes", x.row(2, 0), 3213);
    }

    private static void bandsWrong() {
        TurnedTablets x = loom("t0,0,0123;p0;");
        for (int n : ODD) {
            due("bands(" + n + ", 1, 0)", x.bands(n, 1, 0), -1);
            due("bands(0, " + n + ", 0)", x.bands(0, n, 0), -1);
            due("bands(0, 1, " + n + ")", x.bands(0, 1, n), -1);
        }
        due("bands(10000, 1, 0)", x.bands(10000, 1, 0), -1);
        due("bands(0, 0, 0)", x.bands(0, 0, 0), -1);
        due("bands(0, 61, 0)", x.bands(0, 61, 0), -1);
        due("bands(0, 1, 2)", x.bands(0, 1, 2), -1);
        due("bands(0, 1, 0)", x.bands(0, 1, 0), 1);
        due("bands(0, 60, 0)", x.bands(0, 60, 0), 46);
    }

    private static void keepAndBack() {
        TurnedTablets x = loom("t0,0,0123;p0;");
        due("back() of none", x.back(), -2);
        x.weave(0, 0);
        due("keep()", x.keep(), 1);
        due("count(7) behind keep()", x.count(7), 1);
        x.weave(0, 0);
        due("keep()", x.keep(), 2);
        due("keep(), full", x.keep(), -3);
        due("count(8)", x.count(8), 2);
        x.weave(0, 0);
        due("top(0)", x.top(0), 3);
        due("undo()", x.undo(), 2);
        due("count(8) behind undo()", x.count(8), 2);
        x.weave(0, 0);
        due("back()", x.back(), 1);
        due("top(0)", x.top(0), 2);
        due("count(4)", x.count(4), 2);
        due("undo() behind back()", x.undo(), -2);
        due("count(7)", x.count(7), 0);
        due("count(8)", x.count(8), 1);
        x.weave(0, 1);
        due("keep()", x.keep(), 2);
        x.cut();
        due("back()", x.back(), 1);
        due("count(4)", x.count(4), 3);
        due("row(2, 0)", x.row(2, 0), 1);
        due("back()", x.back(), 0);
        due("count(4)", x.count(4), 1);
        due("top(0)", x.top(0), 1);
        x.weave(0, 0);
        due("back() of none", x.back(), -2);
        due("count(7): nothing changes by NO", x.count(7), 1);
        due("undo()", x.undo(), 0);
    }

    private static void backBringsAll() {
        TurnedTablets x = loom("t0,0,0123;t2,1,4567;p01;p0;d0f;");
        x.weave(0, 0);
        x.weave(1, 1);
        x.flip(0);
        x.see(5);
        x.keep();
        x.weave(0, 0);
        x.weave(0, 0);
        x.unweave();
        x.unweave();
        x.turn(0, 1);
        x.flip(0);
        x.flip(1);
        x.comb(1);
        x.cut();
        x.see(6);
        x.write('t');
        due("back()", x.back(), 0);
        int[][] stands = {{0, 1, 0, 0, 40, 0, 0}, {2, 1, 3, 7, 39, 1, 0}};
        for (int t = 0; t < 2; t++) {
            for (int what = 0; what < 7; what++) {
                due("tablet(" + t + ", " + what + ")", x.tablet(t, what), stands[t][what]);
            }
        }
        due("row(0, 0)", x.row(0, 0), 17);
        due("row(0, 1)", x.row(0, 1), 0);
        due("row(1, 0)", x.row(1, 0), 7);
        due("row(1, 1)", x.row(1, 1), 1);
        due("count(6): what is seen stays", x.count(6), 2);
        due("count(9): the text stays", x.count(9), 32);
        due("unweave()", x.unweave(), 1);
        due("tablet(0, 1)", x.tablet(0, 1), 0);
        due("top(0)", x.top(0), 17);
    }

    private static void backBringsRows() {
        TurnedTablets x = loom("t0,0,0123;t1,1,4567;p01;p0;");
        x.weave(0, 0);
        x.weave(1, 0);
        x.keep();
        x.cut();
        x.weave(0, 1);
        x.keep();
        x.cut();
        x.weave(0, 1);
        x.weave(0, 1);
        due("back()", x.back(), 1);
        due("count(4)", x.count(4), 1);
        due("row(0, 0)", x.row(0, 0), 14);
        due("row(0, 1)", x.row(0, 1), 1);
        due("back()", x.back(), 0);
        due("row(0, 0)", x.row(0, 0), 16);
        due("row(1, 0)", x.row(1, 0), 26);
        due("row(1, 1)", x.row(1, 1), 2);
        due("unweave()", x.unweave(), 1);
        due("tablet(0, 4)", x.tablet(0, 4), 41);
    }

    private static void counts() {
        TurnedTablets x = loom("t0,0,0123;t1,0,0123;t0,0,0123;p0;p12;p0;p0;l7;d0f1b2f3b0b;");
        int[] wants = {3, 4, 5, 7, 0, 0, 0, 0, 0, 58};
        for (int what = 0; what < wants.length; what++) {
            due("count(" + what + ")", x.count(what), wants[what]);
        }
        for (int n : ODD) {
            due("count(" + n + ")", x.count(n), -1);
        }
        due("count(10)", x.count(10), -1);
        for (int k = 1; k <= 3; k++) {
            x.weave(0, k % 2);
            due("count(5) behind " + k, x.count(5), 0);
        }
        x.weave(0, 0);
        due("count(5) behind 4", x.count(5), 2);
        x.weave(0, 1);
        due("count(5) behind 5", x.count(5), 2);
        x.weave(1, 0);
        due("count(5)", x.count(5), 0);
        due("count(4)", x.count(4), 6);
        due("count(7)", x.count(7), 6);
        x.see(1);
        x.keep();
        x.wipe();
        due("count(6)", x.count(6), 1);
        due("count(8)", x.count(8), 1);
        due("count(9)", x.count(9), 0);
        for (int k = 0; k < 4; k++) {
            x.weave(1, 0);
        }
        due("count(5): tablet 0 alone", x.count(5), 1);
    }
}
