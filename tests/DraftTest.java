/** Promises 20 to 25: drafts woven round, what they gather, when they jam; how rows of colours can come. */
public final class DraftTest extends Checks {
    private static final String ALL_OWN = "t0,0,0123;t0,0,0123;t0,0,0123;t0,0,0123;t0,0,0123;t0,0,0123;p0;p1;p2;p3;p4;p5;";

    public static void main(String[] args) {
        round();
        twist();
        jammed();
        fewest();
        fewestByKind();
        can();
        needs();
        nothingChanges();
        end("drafts");
    }

    private static void round(String text, int want) {
        TurnedTablets x = loom(text);
        due("round() of " + text, x.round(), want);
        x.weave(0, 0);
        due("round() of " + text + " behind a pick", x.round(), want);
    }

    private static void round() {
        round("t0,0,0123;p0;", -4);
        round("t0,0,0123;p0;d0f;", 4);
        round("t0,0,0123;p0;d0b;l1;", 4);
        round("t0,0,0000;p0;d0f;", 4);
        round("t0,0,0123;p0;d0f0f;", 2);
        round("t0,0,0123;p0;d0f0b;", 1);
        round("t0,0,0123;p0;d0f0f0f0f;", 1);
        round("t0,0,0123;p0;d0f0f0f;", 4);
        round("t1,0,0123;p0;d0f;", 2);
        round("t1,0,0123;p0;d0f0f;l1;", 1);
        round("t2,0,0123;p0;d0f;", 4);
        round("t3,0,0123;p0;d0b;", 1);
        round("t3,0,0123;p0;d0f0b;", 4);
        round("t0,0,0123;t1,0,0123;p1;p01;d0f;", 2);
        round("t0,0,0123;t1,0,0123;p1;p01;d0f1f;", 4);
        round("t0,0,0123;t2,0,0123;p01;d0f0f;", 2);
    }

    private static void twist() {
        TurnedTablets x = loom("t0,0,0123;t1,0,0123;t2,0,0123;t3,0,0123;p0123;p0;l1;d0f0f0b1f;");
        x.weave(0, 0);
        int[] gathers = {42, 42, 39, 42};
        for (int t = 0; t < 4; t++) {
            due("twist(" + t + ")", x.twist(t), gathers[t]);
        }
        int[] none = {-1, 4, 5, 6, Integer.MIN_VALUE, Integer.MAX_VALUE};
        for (int t : none) {
            due("twist(" + t + ")", x.twist(t), -1);
        }
        due("twist(0)", loom("t1,0,0123;p0;d0f0f0f0f0f0f0f0f;").twist(0), 56);
        due("twist(0)", loom("t1,0,0123;p0;d0b0b0b0b0b0b0b0b;").twist(0), 24);
        due("twist(0)", loom("t3,0,0123;p0;d0b0b0b0b0b0b0b0b;").twist(0), 40);
        due("twist(0)", loom("t2,0,0123;p0;d0b0b0b;").twist(0), 43);
        due("twist(0) without draft", loom("t0,0,0123;p0;").twist(0), 40);
        due("twist(1) without draft", loom("t0,0,0123;p0;").twist(1), -1);
    }

    private static TurnedTablets twisted(String text, int picks, int way) {
        TurnedTablets x = loom(text);
        for (int i = 0; i < picks; i++) {
            x.weave(0, way);
            x.cut();
        }
        return x;
    }

    private static void jammed() {
        due("jammed() without draft", loom("t0,0,0123;p0;l1;").jammed(), -4);
        due("jammed()", loom("t0,0,0123;p0;l3;d0f;").jammed(), 4);
        due("jammed() from 1", twisted("t0,0,0123;p0;l3;d0f;", 1, 0).jammed(), 3);
        due("jammed() from 3", twisted("t0,0,0123;p0;l3;d0f;", 3, 0).jammed(), 1);
        due("jammed() from -3", twisted("t0,0,0123;p0;l3;d0f;", 3, 1).jammed(), 7);
        due("jammed() of two", loom("t0,0,0123;p0;l3;d0f0f;").jammed(), 2);
        due("jammed() of usual twist", loom("t0,0,0123;p0;d0f;").jammed(), 21);
        due("jammed() of most twist", loom("t0,0,0123;p0;l40;d0f;").jammed(), 41);
        due("jammed() from -19", twisted("t0,0,0123;p0;l40;d0f;", 19, 1).jammed(), 60);
        due("jammed() from -20", twisted("t0,0,0123;p0;l40;d0f;", 20, 1).jammed(), -4);
        due("jammed() to and fro", loom("t0,0,0123;p0;l1;d0f0b;").jammed(), -4);
        due("jammed() to and fro from 1", twisted("t0,0,0123;p0;l1;d0f0b;", 1, 0).jammed(), 1);
        due("jammed() of double", loom("t1,0,0123;p0;l1;d0f;").jammed(), 1);
        due("jammed() of double", loom("t1,0,0123;p0;l2;d0b;").jammed(), 2);
        due("jammed() of contrary", twisted("t2,0,0123;p0;l3;d0f;", 1, 1).jammed(), 5);
        due("jammed() of lame", loom("t3,0,0123;p0;l1;d0f;").jammed(), 2);
        due("jammed() of lame, back", loom("t3,0,0123;p0;l1;d0b;").jammed(), -4);
        due("jammed() of lame, back", twisted("t3,0,0123;p0;l1;d0b;", 1, 0).jammed(), -4);
        due("jammed() of the second", loom("t0,0,0123;t1,0,0123;p0;p1;l5;d0f1f;").jammed(), 3);
        TurnedTablets x = loom("t0,0,0123;p0;l3;d0f;");
        for (int i = 0; i < 24; i++) {
            x.weave(0, 1 - i % 2);
        }
        due("jammed() where the band is full", x.jammed(), 4);
        x.turn(0, 0);
        due("jammed() turned by hand", x.jammed(), 3);
        x.comb(0);
        due("jammed() combed", x.jammed(), 4);
    }

    private static void path(TurnedTablets x, int colours, int... picks) {
        due("fewest(" + colours + ", -1)", x.fewest(colours, -1), picks.length);
        for (int k = 0; k < picks.length; k++) {
            due("fewest(" + colours + ", " + k + ")", x.fewest(colours, k), picks[k]);
        }
        due("fewest(" + colours + ", behind the last)", x.fewest(colours, picks.length), -4);
        due("fewest(" + colours + ", max)", x.fewest(colours, Integer.MAX_VALUE), -4);
    }

    private static void noPath(TurnedTablets x, int colours, int want) {
        due("fewest(" + colours + ", -1)", x.fewest(colours, -1), want);
        due("fewest(" + colours + ", 0)", x.fewest(colours, 0), want);
        due("fewest(" + colours + ", 5)", x.fewest(colours, 5), want);
        due("fewest(" + colours + ", -2)", x.fewest(colours, -2), -1);
    }

    private static void fewest() {
        TurnedTablets x = loom("t0,0,0123;t0,0,0123;p0;p1;p01;l1;");
        path(x, 0);
        path(x, 11, 20);
        path(x, 33, 21);
        path(x, 12, 10, 20);
        path(x, 22, 20, 20);
        path(x, 31, 1, 10);
        path(x, 13, 0, 11);
        path(x, 20, 0, 0);
        path(x, 2, 10, 10);
        path(x, 32, 11, 21);
        noPath(x, 4, -4);
        noPath(x, 99, -4);
        noPath(x, 100, -1);
        noPath(x, -1, -1);
        noPath(x, Integer.MAX_VALUE, -1);
        noPath(x, Integer.MIN_VALUE, -1);
        due("fewest(0, min)", x.fewest(0, Integer.MIN_VALUE), -1);
        x.weave(0, 0);
        path(x, 10);
        path(x, 0, 1);
        path(x, 11, 10);
        path(x, 20, 0);
        TurnedTablets y = loom(ALL_OWN);
        path(y, 222222, 0, 0, 10, 10, 20, 20, 30, 30, 40, 40, 50, 50);
        path(y, 313131, 1, 10, 21, 30, 41, 50);
        path(y, 1, 50);
        path(y, 300000, 1);
        noPath(y, 1000000, -1);
        path(loom("t0,0,0123;p0;p0;"), 1, 0);
        path(loom("t0,0,0123;p0;p0;"), 3, 1);
    }

    private static void fewestByKind() {
        path(loom("t3,0,0123;p0;"), 3, 0, 0, 0);
        path(loom("t3,0,0123;p0;l1;"), 1, 0);
        path(loom("t1,0,0123;p0;l1;"), 2, 0);
        noPath(loom("t1,0,0123;p0;"), 1, -4);
        noPath(loom("t1,0,0123;p0;"), 10, -1);
        path(loom("t2,0,0123;p0;"), 1, 1);
        path(loom("t2,0,0123;p0;"), 3, 0);
        path(loom("t0,0,0110;p0;"), 1, 0);
        path(loom("t0,0,0011;p0;"), 1, 1);
        path(loom("t0,0,0010;p0;"), 1, 0, 0);
        path(loom("t0,0,0123;t1,0,0123;p01;"), 12, 0);
        path(loom("t0,0,0123;t2,0,0123;p01;"), 31, 1);
        path(loom("t0,0,0123;t3,0,0123;p01;"), 23, 0, 0, 0, 1);
    }

    private static void can(String text, int want) {
        TurnedTablets x = loom(text);
        due("can() of " + text, x.can(), want);
    }

    private static void can() {
        can("t0,0,0123;p0;l1;", 4);
        can("t0,0,0011;p0;", 2);
        can("t0,0,0010;p0;", 2);
        can("t0,0,0000;p0;", 1);
        can("t1,0,0123;p0;", 2);
        can("t1,0,0101;p0;", 1);
        can("t2,0,0123;p0;", 4);
        can("t3,0,0123;p0;", 4);
        can("t3,0,9099;p0;", 2);
        can(ALL_OWN, 4096);
        can("t0,0,0123;t0,0,0123;t0,0,0123;t0,0,0123;t0,0,0123;t0,0,0123;p012345;", 4);
        can("t0,0,0101;t0,0,0123;p01;", 4);
        can("t0,0,0101;t0,0,0011;p0;p1;", 4);
        can("t0,0,0123;t0,0,0123;p0;", 4);
        can("t0,0,0123;t0,0,0123;p0;p01;", 16);
        can("t0,0,0123;t3,0,0123;p01;", 16);
        can("t0,0,0123;t2,0,0123;p01;", 4);
        can("t0,0,0123;t1,0,0123;p01;", 4);
        TurnedTablets x = loom("t1,0,0112;p0;");
        due("can()", x.can(), 2);
        x.turn(0, 0);
        due("can()", x.can(), 2);
        due("can() as new", new TurnedTablets().can(), 108);
    }

    private static void needs() {
        TurnedTablets x = loom("t0,0,0123;t0,0,0123;p0;p1;p01;p1;l1;");
        due("needs(0): on top now", x.needs(0), 0);
        due("needs(11)", x.needs(11), 4);
        due("needs(22)", x.needs(22), 4);
        due("needs(33)", x.needs(33), 4);
        due("needs(10)", x.needs(10), 1);
        due("needs(20)", x.needs(20), 1);
        due("needs(1)", x.needs(1), 2);
        due("needs(3)", x.needs(3), 2);
        due("needs(12)", x.needs(12), 3);
        due("needs(31)", x.needs(31), 3);
        due("needs(99)", x.needs(99), -4);
        due("needs(4)", x.needs(4), -4);
        int[] none = {-1, 100, 101, 999999, Integer.MIN_VALUE, Integer.MAX_VALUE};
        for (int colours : none) {
            due("needs(" + colours + ")", x.needs(colours), -1);
        }
        x.weave(0, 0);
        due("needs(10)", x.needs(10), 0);
        due("needs(11)", x.needs(11), 2);
        due("needs(0)", x.needs(0), 1);
        TurnedTablets y = loom(ALL_OWN);
        due("needs(222222)", y.needs(222222), 63);
        due("needs(102030)", y.needs(102030), 21);
        due("needs(444444)", y.needs(444444), -4);
        TurnedTablets z = loom("t0,0,0123;t0,0,0123;t0,0,0123;p01;p12;p02;p2;");
        due("needs(112)", z.needs(112), 6);
        due("needs(121)", z.needs(121), 3);
        due("needs(211)", z.needs(211), 5);
        due("needs(111)", z.needs(111), 9);
        due("needs(222)", z.needs(222), 9);
        due("needs(100)", z.needs(100), 12);
        TurnedTablets w = loom("t1,0,0123;t0,0,0123;p0;p01;p1;");
        due("needs(21)", w.needs(21), 2);
        due("needs(22)", w.needs(22), 3);
        due("needs(11)", w.needs(11), -4);
    }

    private static void nothingChanges() {
        TurnedTablets x = loom("t0,0,0123;t1,1,4567;p01;p0;l3;d0f1b;");
        x.weave(0, 0);
        x.round();
        x.twist(1);
        x.jammed();
        x.fewest(27, 0);
        x.can();
        x.needs(27);
        int[] counts = {2, 2, 2, 3, 1, 0, 0, 1, 0, 36};
        for (int what = 0; what < counts.length; what++) {
            due("count(" + what + ")", x.count(what), counts[what]);
        }
        due("top(0)", x.top(0), 16);
        due("tablet(1, 4)", x.tablet(1, 4), 42);
        due("unweave()", x.unweave(), 0);
        due("top(0)", x.top(0), 4);
    }
}
