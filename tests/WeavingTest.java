/** Promises 12 to 19: picks woven and unwoven, tablets turned by hand, flipped, combed, undone. */
public final class WeavingTest extends Checks {
    private static final String FOUR = "t0,0,0123;t1,1,4567;t2,0,8901;t3,1,2345;p0123;p0;p1;p2;p3;";
    private static final int[] ODD = {-1, 2, 6, 7, 100, Integer.MIN_VALUE, Integer.MAX_VALUE};

    public static void main(String[] args) {
        weaves();
        jamsByKind();
        floats();
        weaveWrong();
        again();
        unweave();
        turn();
        flip();
        comb();
        cut();
        undo();
        undoBringsRows();
        undoEach();
        end("weaving");
    }

    private static void stands(TurnedTablets x, int t, int top, int twist, int floats, int slant) {
        due("tablet(" + t + ", 2)", x.tablet(t, 2), top);
        due("tablet(" + t + ", 4)", x.tablet(t, 4), twist + 40);
        due("tablet(" + t + ", 5)", x.tablet(t, 5), floats);
        due("tablet(" + t + ", 6)", x.tablet(t, 6), slant);
    }

    private static void weaves() {
        TurnedTablets x = loom(FOUR);
        due("weave(0, 0)", x.weave(0, 0), 1613);
        due("weave(0, 0)", x.weave(0, 0), 2404);
        due("weave(0, 0)", x.weave(0, 0), 3695);
        due("weave(0, 0)", x.weave(0, 0), 482);
        due("weave(0, 1)", x.weave(0, 1), 3692);
        due("weave(2, 1)", x.weave(2, 1), 3492);
        due("weave(3, 1)", x.weave(3, 1), 3402);
        stands(x, 0, 3, 3, 2, 1);
        stands(x, 1, 0, 4, 1, 0);
        stands(x, 2, 2, -2, 0, 0);
        stands(x, 3, 0, 4, 3, 1);
        due("count(4)", x.count(4), 7);
        due("count(7)", x.count(7), 7);
    }

    /** With a twist of one at most: what jams stays as it is, the others of its pack go on. */
    private static void jamsByKind() {
        TurnedTablets x = loom(FOUR + "l1;");
        due("weave(0, 0)", x.weave(0, 0), 1413);
        stands(x, 0, 1, 1, 0, 0);
        stands(x, 1, 0, 0, 1, 1);
        stands(x, 2, 3, -1, 0, 1);
        stands(x, 3, 1, 1, 0, 1);
        due("weave(0, 0)", x.weave(0, 0), 1413);
        stands(x, 0, 1, 1, 1, 0);
        stands(x, 1, 0, 0, 2, 1);
        stands(x, 2, 3, -1, 1, 1);
        stands(x, 3, 1, 1, 1, 1);
        due("weave(0, 1)", x.weave(0, 1), 483);
        stands(x, 0, 0, 0, 0, 1);
        stands(x, 1, 0, 0, 3, 1);
        stands(x, 2, 0, 0, 0, 0);
        stands(x, 3, 1, 1, 2, 1);
        due("weave(0, 1)", x.weave(0, 1), 3493);
        due("weave(0, 1)", x.weave(0, 1), 3493);
        stands(x, 0, 3, -1, 1, 1);
        stands(x, 2, 1, 1, 1, 0);
        due("count(4): a row where all jam is woven, too", x.count(4), 5);
        TurnedTablets y = loom("t1,0,0123;p0;l3;");
        due("weave(0, 0)", y.weave(0, 0), 2);
        due("weave(0, 0): twist 4 of 3", y.weave(0, 0), 2);
        stands(y, 0, 2, 2, 1, 0);
        y.weave(0, 1);
        y.weave(0, 1);
        y.weave(0, 1);
        stands(y, 0, 2, -2, 1, 1);
        TurnedTablets z = loom("t0,0,0123;p0;l40;");
        for (int i = 0; i < 41; i++) {
            z.weave(0, 1);
            z.cut();
        }
        stands(z, 0, 0, -40, 1, 1);
        TurnedTablets usual = loom("t0,0,0123;p0;");
        for (int i = 0; i < 21; i++) {
            usual.weave(0, 0);
        }
        stands(usual, 0, 0, 20, 1, 0);
    }

    private static void floats() {
        TurnedTablets x = loom("t0,0,0123;t0,0,0123;t0,0,0123;p0;p01;p2;");
        for (int i = 1; i <= 24; i++) {
            x.weave(0, i % 2);
        }
        due("tablet(0, 5)", x.tablet(0, 5), 0);
        due("tablet(1, 5)", x.tablet(1, 5), 24);
        for (int i = 25; i <= 98; i++) {
            x.cut();
            x.weave(0, i % 2);
        }
        due("tablet(1, 5)", x.tablet(1, 5), 98);
        due("tablet(2, 5)", x.tablet(2, 5), 98);
        x.cut();
        x.weave(2, 0);
        due("tablet(0, 5)", x.tablet(0, 5), 1);
        due("tablet(1, 5)", x.tablet(1, 5), 99);
        due("tablet(2, 5)", x.tablet(2, 5), 0);
        x.weave(2, 0);
        x.weave(2, 0);
        due("tablet(1, 5): 99 at most", x.tablet(1, 5), 99);
        x.turn(1, 0);
        due("tablet(1, 5): by hand floats stay", x.tablet(1, 5), 99);
        x.weave(1, 0);
        due("tablet(1, 5)", x.tablet(1, 5), 0);
        due("tablet(2, 5)", x.tablet(2, 5), 1);
    }

    private static void weaveWrong() {
        TurnedTablets x = loom("t0,0,0123;p0;p0;");
        for (int n : ODD) {
            due("weave(" + n + ", 0)", x.weave(n, 0), -1);
            due("weave(0, " + n + ")", x.weave(0, n), -1);
        }
        due("count(7)", x.count(7), 0);
        due("count(4)", x.count(4), 0);
        for (int k = 0; k < 24; k++) {
            due("weave(1, 1)", x.weave(1, 1), Math.floorMod(-Math.min(k + 1, 20), 4));
        }
        due("weave(0, 0), full", x.weave(0, 0), -3);
        due("weave(2, 0), full", x.weave(2, 0), -1);
        due("count(4)", x.count(4), 24);
        due("tablet(0, 4), full", x.tablet(0, 4), 20);
        due("count(7)", x.count(7), 8);
        due("unweave()", x.unweave(), 23);
        due("weave(0, 0)", x.weave(0, 0), 1);
    }

    private static void again() {
        TurnedTablets x = loom("t0,0,0123;t1,1,4567;p0;p01;d0f1f1b0f0f;");
        due("again()", x.again(), 5);
        due("count(4)", x.count(4), 5);
        due("count(7)", x.count(7), 1);
        int[] rows = {14, 26, 14, 24, 34};
        for (int k = 0; k < rows.length; k++) {
            due("row(" + k + ", 0)", x.row(k, 0), rows[k]);
        }
        for (int i = 2; i <= 4; i++) {
            due("again()", x.again(), 5);
        }
        due("again() as far as there is room", x.again(), 4);
        due("count(4)", x.count(4), 24);
        due("count(7)", x.count(7), 5);
        due("again(), no room", x.again(), -3);
        due("count(7)", x.count(7), 5);
        due("undo()", x.undo(), 4);
        due("count(4)", x.count(4), 20);
        due("undo()", x.undo(), 3);
        due("count(4)", x.count(4), 15);
        TurnedTablets y = loom("t0,0,0123;p0;");
        due("again() without draft", y.again(), -2);
        for (int k = 0; k < 24; k++) {
            y.weave(0, 0);
        }
        due("again() without draft or room", y.again(), -2);
        due("count(7)", y.count(7), 8);
        due("again() as new", new TurnedTablets().again(), 4);
    }

    private static void unweave() {
        TurnedTablets x = loom(FOUR);
        due("unweave() of none", x.unweave(), -2);
        due("count(7)", x.count(7), 0);
        x.weave(1, 0);
        x.weave(0, 0);
        x.flip(0);
        x.turn(0, 1);
        x.comb(1);
        x.turn(3, 0);
        due("unweave()", x.unweave(), 1);
        stands(x, 0, 1, 1, 0, 0);
        stands(x, 1, 0, 0, 1, 1);
        stands(x, 2, 0, 0, 1, 0);
        stands(x, 3, 0, 0, 1, 1);
        due("tablet(0, 1): threaded as it was", x.tablet(0, 1), 0);
        due("row(0, 0)", x.row(0, 0), 1482);
        due("row(1, 0)", x.row(1, 0), -4);
        due("unweave()", x.unweave(), 0);
        stands(x, 0, 0, 0, 0, 0);
        stands(x, 2, 0, 0, 0, 0);
        due("unweave() of none", x.unweave(), -2);
        due("count(7)", x.count(7), 8);
        due("undo()", x.undo(), 7);
        due("undo()", x.undo(), 6);
        stands(x, 0, 1, 1, 0, 0);
        due("tablet(0, 1)", x.tablet(0, 1), 1);
        due("row(1, 0)", x.row(1, 0), 2613);
        due("unweave() again", x.unweave(), 1);
        due("tablet(0, 1)", x.tablet(0, 1), 0);
        x.weave(0, 1);
        x.cut();
        due("unweave() behind cut()", x.unweave(), -2);
    }

    private static void turn() {
        TurnedTablets x = loom(FOUR + "l2;");
        x.weave(1, 0);
        due("turn(0, 0)", x.turn(0, 0), 2);
        due("turn(1, 0)", x.turn(1, 0), 2);
        due("turn(2, 0)", x.turn(2, 0), 3);
        due("turn(3, 0)", x.turn(3, 0), 1);
        stands(x, 0, 2, 2, 0, 0);
        stands(x, 1, 2, 2, 1, 1);
        stands(x, 2, 3, -1, 1, 1);
        stands(x, 3, 1, 1, 1, 1);
        due("count(4): no row", x.count(4), 1);
        due("count(7)", x.count(7), 5);
        due("turn(0, 0), it jams", x.turn(0, 0), -2);
        due("turn(1, 0), it jams", x.turn(1, 0), -2);
        due("count(7)", x.count(7), 5);
        due("turn(3, 1), it stays", x.turn(3, 1), 1);
        due("count(7)", x.count(7), 6);
        stands(x, 3, 1, 1, 1, 1);
        due("turn(3, 0)", x.turn(3, 0), 2);
        due("turn(3, 0), it jams", x.turn(3, 0), -2);
        due("turn(3, 1), it stays and does not jam", x.turn(3, 1), 2);
        due("turn(2, 0)", x.turn(2, 0), 2);
        due("turn(2, 0), it jams", x.turn(2, 0), -2);
        due("turn(2, 1)", x.turn(2, 1), 3);
        stands(x, 2, 3, -1, 1, 0);
        due("turn(1, 1)", x.turn(1, 1), 0);
        stands(x, 1, 0, 0, 1, 0);
        due("turn(0, 1)", x.turn(0, 1), 1);
        stands(x, 0, 1, 1, 0, 1);
        for (int n : ODD) {
            due("turn(0, " + n + ")", x.turn(0, n), -1);
            due("turn(3, " + n + ")", x.turn(3, n), -1);
            if (n != 2) {
                due("turn(" + n + ", 0)", x.turn(n, 0), -1);
            }
        }
        due("turn(4, 0)", x.turn(4, 0), -1);
        due("undo()", x.undo(), 7);
        stands(x, 0, 2, 2, 0, 0);
        TurnedTablets y = loom("t0,0,0123;p0;");
        for (int i = 0; i < 24; i++) {
            y.weave(0, 1);
        }
        due("turn(0, 0) where the band is full", y.turn(0, 0), 1);
    }

    private static void flip() {
        TurnedTablets x = loom(FOUR);
        due("flip(0)", x.flip(0), 1);
        due("tablet(0, 1)", x.tablet(0, 1), 1);
        due("tablet(0, 6)", x.tablet(0, 6), 1);
        due("tablet(1, 1)", x.tablet(1, 1), 1);
        due("top(1)", x.top(1), 11);
        x.weave(0, 1);
        due("tablet(0, 6)", x.tablet(0, 6), 0);
        due("row(0, 1)", x.row(0, 1), 8);
        due("flip(1)", x.flip(1), 0);
        due("tablet(1, 6)", x.tablet(1, 6), 1);
        due("flip(1)", x.flip(1), 1);
        due("row(0, 1) stays", x.row(0, 1), 8);
        due("count(7)", x.count(7), 4);
        int[] none = {-1, 4, 6, Integer.MIN_VALUE, Integer.MAX_VALUE};
        for (int t : none) {
            due("flip(" + t + ")", x.flip(t), -1);
            due("comb(" + t + ")", x.comb(t), -1);
        }
        due("count(7)", x.count(7), 4);
    }

    private static void comb() {
        TurnedTablets x = loom(FOUR + "l2;");
        x.weave(0, 0);
        x.weave(0, 0);
        due("comb(0)", x.comb(0), 42);
        stands(x, 0, 2, 0, 0, 0);
        due("comb(1)", x.comb(1), 42);
        stands(x, 1, 2, 0, 1, 1);
        due("comb(2)", x.comb(2), 38);
        stands(x, 2, 2, 0, 0, 1);
        due("comb(2) again", x.comb(2), 40);
        due("count(7)", x.count(7), 6);
        due("turn(0, 0) behind comb(0)", x.turn(0, 0), 3);
        due("comb(0)", x.comb(0), 41);
        due("undo()", x.undo(), 7);
        stands(x, 0, 3, 1, 0, 0);
    }

    private static void cut() {
        TurnedTablets x = loom(FOUR);
        due("cut() of none", x.cut(), 0);
        due("count(7)", x.count(7), 1);
        x.weave(0, 0);
        x.weave(1, 0);
        due("cut()", x.cut(), 2);
        due("count(4)", x.count(4), 0);
        due("row(0, 0)", x.row(0, 0), -4);
        stands(x, 0, 2, 2, 0, 0);
        stands(x, 1, 2, 2, 1, 1);
        due("undo()", x.undo(), 3);
        due("count(4)", x.count(4), 2);
        due("row(1, 0)", x.row(1, 0), 2613);
        due("unweave()", x.unweave(), 1);
        stands(x, 0, 1, 1, 0, 0);
    }

    private static void undo() {
        TurnedTablets x = loom("t0,0,0123;p0;");
        due("undo() of none", x.undo(), -2);
        for (int k = 0; k < 11; k++) {
            x.weave(0, 0);
            due("count(7)", x.count(7), Math.min(k + 1, 8));
        }
        for (int left = 7; left >= 0; left--) {
            due("undo()", x.undo(), left);
            due("count(7)", x.count(7), left);
            due("count(4)", x.count(4), left + 3);
            due("tablet(0, 4)", x.tablet(0, 4), 43 + left);
        }
        due("undo(): the last 8 alone", x.undo(), -2);
        due("count(4)", x.count(4), 3);
        due("row(2, 0)", x.row(2, 0), 3);
        x.weave(0, 1);
        x.weave(0, 1);
        due("undo()", x.undo(), 1);
        x.weave(0, 0);
        due("count(7)", x.count(7), 2);
        due("row(4, 0)", x.row(4, 0), 3);
        due("undo()", x.undo(), 1);
        due("undo()", x.undo(), 0);
        due("undo()", x.undo(), -2);
        due("count(4)", x.count(4), 3);
    }

    /** A row that has been woven anew behind a cut is another one: undone, the old one is there again. */
    private static void undoBringsRows() {
        TurnedTablets x = loom("t0,0,0123;t1,1,4567;p01;p0;");
        x.weave(0, 0);
        x.weave(1, 0);
        x.cut();
        x.weave(0, 1);
        due("row(0, 0)", x.row(0, 0), 14);
        due("row(0, 1)", x.row(0, 1), 1);
        due("undo()", x.undo(), 3);
        due("undo()", x.undo(), 2);
        due("row(0, 0)", x.row(0, 0), 16);
        due("row(0, 1)", x.row(0, 1), 2);
        due("row(1, 0)", x.row(1, 0), 26);
        due("row(2, 0)", x.row(2, 0), -4);
        due("unweave()", x.unweave(), 1);
        stands(x, 0, 1, 1, 0, 0);
        due("unweave()", x.unweave(), 0);
        stands(x, 0, 0, 0, 0, 0);
        stands(x, 1, 0, 0, 0, 1);
    }

    /** What each of the calls that can be undone does is undone; what the others do is not. */
    private static void undoEach() {
        TurnedTablets x = loom("t0,0,0123;t3,1,4567;p01;d0f0f;");
        x.weave(0, 0);
        for (int which = 0; which < 8; which++) {
            int before = x.count(7);
            switch (which) {
                case 0: x.weave(0, 1); break;
                case 1: x.again(); break;
                case 2: x.unweave(); break;
                case 3: x.turn(0, 0); break;
                case 4: x.turn(1, 1); break;
                case 5: x.flip(0); break;
                case 6: x.comb(0); break;
                default: x.cut(); break;
            }
            due("count(7) behind " + which, x.count(7), before + 1);
            due("undo() of " + which, x.undo(), before);
            stands(x, 0, 1, 1, 0, 0);
            stands(x, 1, 1, 1, 0, 1);
            due("tablet(0, 1)", x.tablet(0, 1), 0);
            due("count(4)", x.count(4), 1);
            due("row(0, 0)", x.row(0, 0), 15);
        }
        x.see(1);
        x.keep();
        x.write('t');
        due("count(7): see, keep, write are none", x.count(7), 1);
        due("undo()", x.undo(), 0);
        due("count(6)", x.count(6), 1);
        due("count(8)", x.count(8), 1);
        x.forget();
        x.wipe();
        x.weave(0, 0);
        x.weave(9, 0);
        x.turn(9, 0);
        x.flip(9);
        x.comb(9);
        due("count(7): what is BAD is none", x.count(7), 1);
    }
}
