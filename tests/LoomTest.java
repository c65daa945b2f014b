/** Promises 1 to 11: texts, faults, what is laid, what is on top. */
public final class LoomTest extends Checks {
    private static final String T = "t0,0,0123;";

    public static void main(String[] args) {
        newObject();
        writeAndWipe();
        faults();
        lay();
        layClears();
        tablets();
        threadings();
        holesPacksDrafts();
        topsAndRows();
        end("looms");
    }

    private static void newObject() {
        TurnedTablets x = new TurnedTablets();
        due("BAD", TurnedTablets.BAD, -1);
        due("NO", TurnedTablets.NO, -2);
        due("FULL", TurnedTablets.FULL, -3);
        due("NONE", TurnedTablets.NONE, -4);
        int[] counts = {6, 4, 4, 16, 0, 0, 0, 0, 0, 0};
        for (int what = 0; what < counts.length; what++) {
            due("new count(" + what + ")", x.count(what), counts[what]);
        }
        int[] kinds = {0, 0, 1, 2, 0, 3};
        int[] threaded = {0, 1, 0, 1, 0, 1};
        int[][] colours = {{1, 1, 2, 3}, {2, 2, 3, 1}, {1, 2, 1, 2}, {3, 3, 1, 2}, {1, 2, 3, 1}, {2, 2, 1, 3}};
        for (int t = 0; t < 6; t++) {
            int[] stands = {kinds[t], threaded[t], 0, colours[t][0], 40, 0, threaded[t]};
            for (int what = 0; what < stands.length; what++) {
                due("new tablet(" + t + ", " + what + ")", x.tablet(t, what), stands[what]);
            }
            for (int h = 0; h < 4; h++) {
                due("new hole(" + t + ", " + h + ")", x.hole(t, h), colours[t][h]);
            }
        }
        int[] packs = {63, 21, 42, 33, -1};
        int[] draft = {0, 10, 21, 0, -4};
        for (int k = 0; k < 5; k++) {
            due("new pack(" + k + ")", x.pack(k), packs[k]);
            due("new draft(" + k + ")", x.draft(k), draft[k]);
        }
        due("new fault()", x.fault(), -4);
        due("new top(0)", x.top(0), 121312);
        due("new top(1)", x.top(1), 42);
        due("new undo()", x.undo(), -2);
        due("new back()", x.back(), -2);
        due("new unweave()", x.unweave(), -2);
        due("new lay(), the text is empty", x.lay(), -2);
        due("new wipe()", x.wipe(), 0);
    }

    private static void writeAndWipe() {
        TurnedTablets x = new TurnedTablets();
        int[] none = {31, 127, 0, -1, 128, 1000, 65536 + 65, Integer.MIN_VALUE, Integer.MAX_VALUE};
        for (int letter : none) {
            due("write(" + letter + ")", x.write(letter), -1);
        }
        due("count(9) behind none", x.count(9), 0);
        due("write(32)", x.write(32), 1);
        due("write(126)", x.write(126), 2);
        for (int length = 3; length <= 200; length++) {
            due("write(65)", x.write(65), length);
        }
        due("write(65), full", x.write(65), -3);
        due("write(31), full", x.write(31), -1);
        due("count(9)", x.count(9), 200);
        due("wipe()", x.wipe(), 200);
        due("wipe() again", x.wipe(), 0);
        due("write(65) behind wipe", x.write(65), 1);
        due("fault() of A", x.fault(), 0);
    }

    private static void fault(String text, int want) {
        TurnedTablets x = new TurnedTablets();
        tell(x, text);
        due("fault() of " + text, x.fault(), want);
        due("fault() leaves what is laid, top(0)", x.top(0), 121312);
        due("fault() leaves what is laid, count(2)", x.count(2), 4);
        due("fault() leaves what is laid, count(3)", x.count(3), 16);
        due("fault() leaves the text", x.count(9), text.length());
        if (want != -4) {
            due("lay() of " + text, x.lay(), -2);
            due("count(0) behind no lay()", x.count(0), 6);
            due("hole(0, 3) behind no lay()", x.hole(0, 3), 3);
        }
    }

    private static void faults() {
        String[] so = {"", T, "t3,1,9999;", "t03,01,0123;", "t00,00,0000;", T + "p0;", T + T + "p10;p01;p1;", "l1;", "l40;", "l01;",
            "l9;l8;l07;", T + T + T + T + T + T, T + "p0;p0;p0;p0;p0;p0;", T + "p0;d0f;", T + "p0;d0f0b0f0b0f0b0f0b;",
            T + "p0;d0b;d0f;" + T + "p10;d1f0b;"};
        for (String text : so) {
            fault(text, -4);
        }
        String[] notSo = {"t0,0,0123", "t4,0,0123;", "t,0,0123;", "t10,0,0123;", "t000,0,0123;", "t0,2,0123;", "t0,,0123;", "t0,001,0123;",
            "t0,0,012;", "t0,0,01234;", "t0,0,01a3;", "t0,0,;", "t0,0;", "t0;", "t;", "t", "T0,0,0123;", " t0,0,0123;", "t 0,0,0123;", "t0 ,0,0123;",
            "t0,0,0123 ;", "t0.0,0123;", "t0,0.0123;", "t-1,0,0123;", "t0,0,0,1,2,3;", "t0,0,0123,;", "p;", "p", "l0;", "l41;", "l00;", "l99;", "l;", "l123;", "l040;",
            "l-1;", "l5", "l5,;", "l 5;", "d;", "d0f;", "d", "x;", ";", "0;", ",", "~"};
        for (String text : notSo) {
            fault(text, 0);
            fault("l7;" + text, 3);
            fault(T + text + T, 10);
        }
        String[] notSoBehindPack = {"p00;", "p1;", "p01;", "p0,0;", "p0", "pa;", "p 0;", "d1f;", "d0;", "d0x;", "d0F;", "df;", "d0ff;", "df0;", "d0f0;",
            "d0f,0f;", "d0f", "d0f0f0f0f0f0f0f0f0f;", "d0f1f;", "d-0f;", "d00f;"};
        for (String text : notSoBehindPack) {
            fault(T + "p0;" + text, 13);
        }
        fault("p0;", 0);
        fault("l7;p0;", 3);
        fault(T + T + T + T + T + T + T, 60);
        fault(T + "p0;p0;p0;p0;p0;p0;p0;", 28);
        fault(T + T + T + T + T + T + "p012345;p6;", 68);
        fault(T + T + T + T + T + T + "p0123450;", 60);
        fault(T + "p01;" + T, 10);
        fault(T + T + T + "p11;", 30);
        fault(T + T + T + "p0121;", 30);
        fault(T + T + T + "p202;", 30);
        fault(T + "d0f;p0;", 10);
        fault(T + "p0;d1f;p0;", 13);
        fault(T + "p0;;", 13);
        fault("l5;l41;l6;", 3);
        fault("x" + T, 0);
    }

    private static void lay() {
        TurnedTablets x = new TurnedTablets();
        tell(x, "l5;");
        due("lay() without tablet", x.lay(), -2);
        tell(x, T);
        due("lay() without pack", x.lay(), -2);
        due("fault() without pack", x.fault(), -4);
        due("count(0)", x.count(0), 6);
        due("count(3)", x.count(3), 16);
        tell(x, "p0;");
        due("lay()", x.lay(), 1);
        due("count(0)", x.count(0), 1);
        due("count(1)", x.count(1), 1);
        due("count(2)", x.count(2), 0);
        due("count(3)", x.count(3), 5);
        due("count(9): the text stays", x.count(9), 16);
        tell(x, "t1,1,5678;p10;l40;d1b;d0f1f;l9;");
        due("count(0) ahead of lay()", x.count(0), 1);
        due("lay() of more", x.lay(), 2);
        due("count(1)", x.count(1), 2);
        due("count(2)", x.count(2), 2);
        due("count(3)", x.count(3), 9);
        due("draft(0)", x.draft(0), 0);
        due("draft(1)", x.draft(1), 10);
        due("draft(2)", x.draft(2), -4);
        due("pack(1)", x.pack(1), 3);
        TurnedTablets y = loom(T + "p0;");
        due("count(3) without l", y.count(3), 20);
        due("lay() again", y.lay(), 1);
    }

    private static void layClears() {
        TurnedTablets x = loom("t0,0,0123;t1,1,4567;p01;p0;l3;d0f;");
        x.weave(0, 0);
        x.weave(1, 0);
        x.turn(0, 0);
        x.flip(1);
        x.see(15);
        x.keep();
        x.keep();
        x.write('x');
        due("lay() with a fault", x.lay(), -2);
        int[] stay = {2, 2, 1, 3, 2, 0, 1, 4, 2, 35};
        for (int what = 0; what < stay.length; what++) {
            due("count(" + what + ") behind no lay()", x.count(what), stay[what]);
        }
        due("top(0) behind no lay()", x.top(0), 36);
        x.wipe();
        tell(x, "t0,0,0123;t1,1,4567;p01;p0;");
        due("lay()", x.lay(), 2);
        int[] anew = {2, 2, 0, 20, 0, 0, 0, 0, 0, 27};
        for (int what = 0; what < anew.length; what++) {
            due("count(" + what + ") behind lay()", x.count(what), anew[what]);
        }
        for (int t = 0; t < 2; t++) {
            due("tablet(t, 1) behind lay()", x.tablet(t, 1), t);
            due("tablet(t, 2) behind lay()", x.tablet(t, 2), 0);
            due("tablet(t, 4) behind lay()", x.tablet(t, 4), 40);
            due("tablet(t, 5) behind lay()", x.tablet(t, 5), 0);
            due("tablet(t, 6) behind lay()", x.tablet(t, 6), t);
        }
        due("undo() behind lay()", x.undo(), -2);
        due("back() behind lay()", x.back(), -2);
        due("unweave() behind lay()", x.unweave(), -2);
        due("row(0, 0) behind lay()", x.row(0, 0), -4);
        due("forget() behind lay()", x.forget(), 0);
    }

    private static void stands(TurnedTablets x, int t, int... want) {
        for (int what = 0; what < want.length; what++) {
            due("tablet(" + t + ", " + what + ")", x.tablet(t, what), want[what]);
        }
    }

    private static void tablets() {
        TurnedTablets x = loom("t0,0,0123;t1,1,4567;t2,0,8901;t3,1,2345;p0123;p0;");
        due("weave(0, 0)", x.weave(0, 0), 1613);
        stands(x, 0, 0, 0, 1, 1, 41, 0, 0);
        stands(x, 1, 1, 1, 2, 6, 42, 0, 1);
        stands(x, 2, 2, 0, 3, 1, 39, 0, 1);
        stands(x, 3, 3, 1, 1, 3, 41, 0, 1);
        due("weave(0, 1)", x.weave(0, 1), 483);
        stands(x, 0, 0, 0, 0, 0, 40, 0, 1);
        stands(x, 1, 1, 1, 0, 4, 40, 0, 0);
        stands(x, 2, 2, 0, 0, 8, 40, 0, 0);
        stands(x, 3, 3, 1, 1, 3, 41, 1, 1);
        due("weave(1, 1)", x.weave(1, 1), 3483);
        stands(x, 0, 0, 0, 3, 3, 39, 0, 1);
        stands(x, 1, 1, 1, 0, 4, 40, 1, 0);
        stands(x, 3, 3, 1, 1, 3, 41, 2, 1);
        due("flip(0)", x.flip(0), 1);
        stands(x, 0, 0, 1, 3, 3, 39, 0, 0);
        int[] none = {-1, 4, 5, 6, 7, 100, Integer.MIN_VALUE, Integer.MAX_VALUE};
        for (int t : none) {
            due("tablet(" + t + ", 0)", x.tablet(t, 0), -1);
            due("tablet(" + t + ", 9)", x.tablet(t, 9), -1);
        }
        int[] noWhat = {-1, 7, 8, Integer.MIN_VALUE, Integer.MAX_VALUE};
        for (int what : noWhat) {
            due("tablet(0, " + what + ")", x.tablet(0, what), -1);
        }
    }

    private static void threadings() {
        for (int bits = 0; bits < 64; bits += 9) {
            StringBuilder text = new StringBuilder();
            for (int t = 0; t < 6; t++) {
                text.append("t0,").append(bits >> t & 1).append(",0123;");
            }
            TurnedTablets x = loom(text + "p012345;");
            due("top(1)", x.top(1), bits);
            for (int t = 0; t < 6; t++) {
                due("tablet(" + t + ", 1)", x.tablet(t, 1), bits >> t & 1);
            }
            x.weave(0, 1);
            due("top(1) behind BACK", x.top(1), 63 - bits);
            x.weave(0, 0);
            due("top(1) behind FORWARD", x.top(1), bits);
        }
    }

    private static void holesPacksDrafts() {
        TurnedTablets x = loom("t0,0,0123;t1,1,4567;t2,0,8901;p0;p21;p20;d0f1b2f2b;");
        due("weave(0, 0)", x.weave(0, 0), 148);
        for (int h = 0; h < 4; h++) {
            due("hole(0, " + h + ")", x.hole(0, h), h);
            due("hole(2, " + h + ")", x.hole(2, h), (8 + h) % 10);
        }
        int[] none = {-1, 4, 6, Integer.MIN_VALUE, Integer.MAX_VALUE};
        for (int n : none) {
            due("hole(0, " + n + ")", x.hole(0, n), -1);
            due("hole(" + n + ", 0)", x.hole(n, 0), -1);
            due("pack(" + n + ")", x.pack(n), -1);
        }
        due("hole(3, 0)", x.hole(3, 0), -1);
        int[] packs = {1, 6, 5, -1};
        int[] draft = {0, 11, 20, 21, -4};
        for (int p = 0; p < packs.length; p++) {
            due("pack(" + p + ")", x.pack(p), packs[p]);
        }
        for (int k = 0; k < draft.length; k++) {
            due("draft(" + k + ")", x.draft(k), draft[k]);
        }
        due("draft(8)", x.draft(8), -4);
        due("draft(max)", x.draft(Integer.MAX_VALUE), -4);
        due("draft(-1)", x.draft(-1), -1);
        due("draft(min)", x.draft(Integer.MIN_VALUE), -1);
        TurnedTablets y = loom("t0,0,0123;p0;");
        due("draft(0) without draft", y.draft(0), -4);
        due("draft(-1) without draft", y.draft(-1), -1);
    }

    private static void topsAndRows() {
        TurnedTablets x = loom("t0,0,0123;t1,1,4567;t2,1,8901;p0;p12;");
        due("top(0)", x.top(0), 48);
        due("top(1)", x.top(1), 6);
        x.weave(0, 1);
        due("top(0)", x.top(0), 348);
        due("top(1)", x.top(1), 7);
        x.weave(1, 0);
        due("top(0)", x.top(0), 361);
        due("top(1)", x.top(1), 3);
        x.flip(0);
        due("top(1) flipped", x.top(1), 2);
        x.turn(1, 1);
        due("top(0) turned", x.top(0), 341);
        due("top(1) turned", x.top(1), 0);
        due("row(0, 0)", x.row(0, 0), 348);
        due("row(0, 1)", x.row(0, 1), 7);
        due("row(1, 0)", x.row(1, 0), 361);
        due("row(1, 1)", x.row(1, 1), 3);
        due("row(2, 0)", x.row(2, 0), -4);
        due("row(2, 1)", x.row(2, 1), -4);
        due("row(24, 1)", x.row(24, 1), -4);
        due("row(max, 1)", x.row(Integer.MAX_VALUE, 1), -4);
        int[] none = {-1, 2, 3, Integer.MIN_VALUE, Integer.MAX_VALUE};
        for (int what : none) {
            due("top(" + what + ")", x.top(what), -1);
            due("row(0, " + what + ")", x.row(0, what), -1);
            due("row(5, " + what + ")", x.row(5, what), -1);
        }
        due("row(-1, 0)", x.row(-1, 0), -1);
        due("row(-1, 1)", x.row(-1, 1), -1);
        due("row(min, 0)", x.row(Integer.MIN_VALUE, 0), -1);
        for (int k = 2; k < 24; k++) {
            x.weave(0, 0);
        }
        due("row(23, 0)", x.row(23, 0), x.top(0));
        due("row(24, 0) of 24", x.row(24, 0), -4);
    }
}
