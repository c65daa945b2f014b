/** Edges of section 4 and of promises 26 to 35: what is seen, amiss, slips by chance, bands by draws, looms kept. */
public final class SeenEdgesTest extends EdgeChecks {
    private static final String T = "t0,0,0123;";
    private static final String ONE = T + "p0;";
    private static final String TWO = T + T + "p0;p1;p01;";
    private static final String SIX = T + T + T + T + T + T;

    public static void main(String[] args) {
        see();
        forget();
        ways();
        waysNumbers();
        lies();
        liesNumbers();
        amissNumbers();
        amiss();
        slipsNumbers();
        slips();
        slipsByTwist();
        bandsNumbers();
        bandsDraws();
        bandsWhich();
        bandsRoom();
        keep();
        back();
        backBrings();
        end("edges of what is seen, slips, bands");
    }

    private static void see() {
        edge("see: COLOURS of as many figures as there are TABLETS: one", "loom " + ONE, "still see -1 = BAD", "see 0 = 1", "see 9 = 2", "still see 10 = BAD",
            "still see MIN = BAD", "still see MAX = BAD", "count 6 = 2");
        edge("see: COLOURS of as many figures as there are TABLETS: six", "still see -1 = BAD", "see 0 = 1", "see 999999 = 2", "still see 1000000 = BAD");
        edge("SEEN (6 at most): the sixth, one more", "loom " + ONE, "5 times see 1", "count 6 = 5", "see 2 = 6", "count 6 = 6", "still see 3 = FULL", "still see 0 = FULL");
        edge("see: BAD is ahead of FULL", "loom " + ONE, "6 times see 1", "still see -1 = BAD", "still see 10 = BAD", "still see 9 = FULL");
        edge("SEEN: room for 6 behind forget", "loom " + ONE, "6 times see 1", "forget = 6", "see 3 = 1", "ways = 1", "5 times see 1", "still see 1 = FULL");
        edge("SEEN: COLOURS that are not there can be, too", "loom " + ONE, "see 7 = 1", "ways = 0", "lies = 0");
    }

    private static void forget() {
        edge("forget: how many were: none", "loom " + ONE, "still forget = 0", "count 6 = 0");
        edge("forget: how many were: one, six", "loom " + ONE, "see 1 = 1", "forget = 1", "still forget = 0", "ways = 1", "lies = 4", "6 times see 1", "forget = 6",
            "count 6 = 0");
    }

    private static void ways() {
        edge("WAYS: nothing SEEN: 1", "loom " + TWO, "still ways = 1", "weave 0 0 = 10", "still ways = 1");
        edge("WAYS: none", "loom " + TWO, "see 0 = 1", "still ways = 0", "forget = 1", "see 2 = 1", "ways = 0", "see 2 = 2", "ways = 0");
        edge("WAYS: one", "loom " + ONE, "see 1 = 1", "still ways = 1", "see 2 = 2", "ways = 1", "see 3 = 3", "see 0 = 4", "see 3 = 5", "see 0 = 6", "still ways = 1");
        edge("WAYS: none at the sixth", "loom " + ONE, "see 1 = 1", "see 2 = 2", "see 3 = 3", "see 0 = 4", "see 3 = 5", "ways = 1", "see 3 = 6", "still ways = 0");
        edge("WAYS: by several PACKS, either way", "loom t0,0,0101;p0;p0;", "see 1 = 1", "ways = 4", "see 0 = 2", "ways = 16", "see 1 = 3", "ways = 64");
        edge("WAYS: the most", "loom t0,0,0000;p0;p0;p0;p0;p0;p0;", "6 times see 0", "still ways = 2985984");
        edge("WAYS: a LAME one BACK shows the same COLOURS", "loom t3,0,0123;p0;", "see 0 = 1", "ways = 1", "see 1 = 2", "ways = 1", "see 1 = 3", "ways = 1", "see 0 = 4", "ways = 0");
        edge("WAYS: one behind the other, not the other way", "loom " + ONE, "see 2 = 1", "see 1 = 2", "ways = 0", "forget = 2", "see 1 = 1", "see 2 = 2", "ways = 1");
    }

    private static void waysNumbers() {
        edge("WAYS: from now on", "loom " + ONE, "see 1 = 1", "ways = 1", "turn 0 0 = 1", "ways = 0", "turn 0 0 = 2", "ways = 1", "undo = 1", "ways = 0");
        edge("WAYS: WHATEVER TWIST", "loom " + ONE + "l1;", "turn 0 0 = 1", "see 2 = 1", "see 3 = 2", "see 0 = 3", "still ways = 1");
        edge("WAYS: whatever room", "loom " + ONE, "24 times weave 0 1", "top 0 = 0", "see 3 = 1", "see 2 = 2", "still ways = 1");
        edge("WAYS: COLOURS with 0 ahead", "loom " + TWO, "see 1 = 1", "ways = 1", "see 11 = 2", "ways = 1", "see 1 = 3", "ways = 1", "forget = 3", "see 11 = 1", "ways = 1",
            "see 1 = 2", "ways = 1");
    }

    private static void lies() {
        edge("LAY: nothing SEEN: all of them: one TABLET", "loom " + ONE, "still lies = 4");
        edge("LAY: nothing SEEN: all of them: two", "loom " + TWO, "still lies = 16", "weave 0 0 = 10", "lies = 16");
        edge("LAY: nothing SEEN: all of them: three", "loom " + T + T + T + "p0;", "lies = 64");
        edge("LAY: nothing SEEN: all of them: four", "loom " + T + T + T + T + "p0;", "lies = 256");
        edge("LAY: nothing SEEN: all of them: five", "loom " + T + T + T + T + T + "p0;", "lies = 1024");
        edge("LAY: nothing SEEN: all of them: six", "loom " + SIX + "p0;", "lies = 4096");
        edge("LAY: none", "loom " + ONE, "see 4 = 1", "still lies = 0", "forget = 1", "see 0 = 1", "lies = 2", "see 0 = 2", "lies = 0", "see 1 = 3", "lies = 0");
        edge("LAY: the last of six is SEEN, too", "loom " + ONE, "see 0 = 1", "see 1 = 2", "see 2 = 3", "see 3 = 4", "see 0 = 5", "lies = 2", "see 0 = 6", "still lies = 0");
        edge("LAY: all are SEEN by some PICK", "loom t0,0,0000;p0;", "6 times see 0", "lies = 4");
        edge("LAY: all of six TABLETS", "loom " + SIX.replace("0123", "0000") + "p0;", "6 times see 0", "lies = 4096");
    }

    private static void liesNumbers() {
        edge("LAY: each TABLET's HOLE by itself", "loom " + T + T + "p0;", "see 0 = 1", "lies = 2", "forget = 1", "see 30 = 1", "lies = 2");
        edge("LAY: HOLES, not COLOURS", "loom t0,0,0111;p0;", "see 1 = 1", "lies = 4", "see 0 = 2", "lies = 2", "see 0 = 3", "lies = 0");
        edge("LAY: from one some PICKS are enough", "loom " + T + "p0;p0;p0;", "see 1 = 1", "lies = 2");
        edge("LAY: a DOUBLE one", "loom t1,0,0123;p0;", "see 1 = 1", "lies = 1", "see 3 = 2", "lies = 1", "see 0 = 3", "lies = 0");
        edge("LAY: a LAME one", "loom t3,0,0123;p0;", "see 1 = 1", "lies = 2", "see 0 = 2", "lies = 0");
        edge("LAY: a CONTRARY one with another", "loom " + T + "t2,0,0123;p01;", "see 13 = 1", "lies = 2", "see 22 = 2", "lies = 2", "see 33 = 3", "lies = 0");
        edge("LAY: wherever the HOLES are, WHATEVER TWIST", "loom " + ONE + "l1;", "turn 0 0 = 1", "see 2 = 1", "lies = 2", "see 3 = 2", "see 0 = 3", "lies = 2",
            "still lies = 2");
    }

    private static void amissNumbers() {
        edge("AMISS: COLOURS of as many figures as there are TABLETS: one", "loom " + ONE, "still amiss -1 = BAD", "still amiss 0 = 0", "amiss 9 = 0", "still amiss 10 = BAD",
            "still amiss MIN = BAD", "still amiss MAX = BAD");
        edge("AMISS: COLOURS of as many figures as there are TABLETS: six", "still amiss -1 = BAD", "amiss 0 = 0", "still amiss 999999 = 0", "still amiss 1000000 = BAD");
        edge("AMISS: COLOURS, fewer: 0 ahead", "loom " + TWO, "amiss 1 = 2", "amiss 3 = 128", "amiss 10 = 1");
    }

    private static void amiss() {
        edge("AMISS: the next HOLE, behind 3 comes 0", "loom " + ONE, "3 times turn 0 0", "amiss 0 = 1", "amiss 2 = 64");
        edge("AMISS: the HOLE ahead, ahead of 0 is 3", "loom " + ONE, "amiss 3 = 64", "amiss 1 = 1", "amiss 2 = 0", "amiss 0 = 0");
        edge("AMISS: both", "loom t0,0,0121;p0;", "amiss 1 = 65");
        edge("AMISS: alone", "loom " + TWO, "amiss 11 = 0", "amiss 33 = 0", "amiss 13 = 0");
        edge("AMISS: all of six", "loom t0,0,0123;t0,0,0000;t0,0,0000;t0,0,0000;t0,0,0000;t0,0,0000;p0;", "amiss 0 = 4030");
        edge("AMISS: the last of six", "loom " + SIX + "p0;", "amiss 1 = 32", "amiss 3 = 2048", "amiss 100000 = 1", "amiss 300000 = 64");
        edge("AMISS: what is on top now, by threads alike", "loom t0,0,0012;p0;", "amiss 0 = 1", "amiss 2 = 64", "turn 0 0 = 1", "amiss 0 = 64");
        edge("AMISS: whatever KIND and TWIST", "loom t3,0,0123;t1,0,0123;t2,0,0123;p012;l1;", "turn 0 0 = 1", "turn 2 0 = 3", "amiss 203 = 1", "amiss 3 = 64", "amiss 113 = 2",
            "amiss 133 = 128", "amiss 100 = 4", "amiss 102 = 256");
        edge("AMISS: of no PACK, too", "loom " + T + T + "p0;", "amiss 1 = 2", "amiss 3 = 128");
    }

    private static void slipsNumbers() {
        edge("SLIPS: a PACK such as there is", "loom " + ONE, "still slips -1 0 5 0 = BAD", "slips 0 0 5 0 = 1", "still slips 1 0 5 0 = BAD", "still slips MIN 0 5 0 = BAD",
            "still slips MAX 0 5 0 = BAD");
        edge("SLIPS: FORWARD 0, BACK 1", "loom " + ONE, "still slips 0 -1 5 0 = BAD", "slips 0 0 5 1 = 2", "slips 0 1 5 1 = 2", "still slips 0 2 5 0 = BAD",
            "still slips 0 MIN 5 0 = BAD", "still slips 0 MAX 5 0 = BAD");
        edge("SLIPS: by x (0 to 10)", "loom " + ONE, "still slips 0 0 -1 0 = BAD", "slips 0 0 0 0 = 1", "slips 0 0 10 0 = 0", "still slips 0 0 11 0 = BAD",
            "still slips 0 0 MIN 0 = BAD", "still slips 0 0 MAX 0 = BAD");
        edge("SLIPS: above (part = 0), below (1)", "loom " + ONE, "still slips 0 0 3 -1 = BAD", "slips 0 0 3 0 = 7", "slips 0 0 3 1 = 10", "still slips 0 0 3 2 = BAD",
            "still slips 0 0 3 MIN = BAD", "still slips 0 0 3 MAX = BAD");
        edge("SLIPS: a PACK such as there is, of four", "still slips 4 0 0 0 = BAD", "slips 3 0 5 1 = 1", "slips 3 1 5 1 = 2");
    }

    private static void slips() {
        edge("SLIPS: never: 1 of 1", "loom " + SIX + "p012345;", "slips 0 0 0 0 = 1", "slips 0 0 0 1 = 1");
        edge("SLIPS: always: 0 of 1", "loom " + SIX + "p012345;", "slips 0 0 10 0 = 0", "slips 0 0 10 1 = 1", "slips 0 1 10 0 = 0", "slips 0 1 10 1 = 1");
        edge("SLIPS: always, but nothing shows: 1 of 1", "loom t0,0,0011;p0;", "slips 0 0 10 0 = 1", "slips 0 0 10 1 = 1", "slips 0 1 10 0 = 0");
        edge("SLIPS: in lowest terms: by 2, by 5, by 10, by none", "loom " + ONE, "slips 0 0 2 0 = 4", "slips 0 0 2 1 = 5", "slips 0 0 5 0 = 1", "slips 0 0 5 1 = 2",
            "slips 0 0 1 0 = 9", "slips 0 0 1 1 = 10", "slips 0 0 9 0 = 1", "slips 0 0 9 1 = 10");
        edge("SLIPS: in lowest terms: the greatest", "loom " + SIX + "p012345;", "slips 0 0 1 0 = 531441", "slips 0 0 1 1 = 1000000", "slips 0 0 8 0 = 1", "slips 0 0 8 1 = 15625");
        edge("SLIPS: TABLETS of the PACK alone", "loom " + T + T + "p0;p01;", "slips 0 0 5 1 = 2", "slips 1 0 5 1 = 4");
        edge("SLIPS: a LAME one BACK is not TURNED anyhow", "loom t3,0,0123;p0;", "slips 0 1 7 0 = 1", "slips 0 1 7 1 = 1", "slips 0 0 7 0 = 3", "slips 0 0 7 1 = 10");
        edge("SLIPS: a DOUBLE one by two", "loom t1,0,0100;p0;", "slips 0 0 5 1 = 1", "turn 0 0 = 2", "slips 0 1 5 1 = 1", "wipe = 13", "loom t1,0,0010;p0;", "slips 0 0 5 1 = 2");
        edge("SLIPS: a CONTRARY one the other way", "loom t2,0,0100;p0;", "slips 0 0 5 1 = 1", "slips 0 1 5 1 = 2");
        edge("SLIPS: from now on", "loom t0,0,0011;p0;", "slips 0 0 5 1 = 1", "turn 0 0 = 1", "slips 0 0 5 1 = 2", "slips 0 1 5 1 = 1", "still slips 0 0 5 1 = 2");
    }

    private static void slipsByTwist() {
        edge("SLIPS by TWIST as it is: what JAMS is not TURNED anyhow", "loom " + ONE + "l2;", "turn 0 0 = 1", "slips 0 0 3 0 = 7", "turn 0 0 = 2", "still slips 0 0 3 0 = 1",
            "slips 0 0 3 1 = 1", "slips 0 0 10 0 = 1", "slips 0 1 3 0 = 7", "slips 0 1 3 1 = 10");
        edge("SLIPS by TWIST as it is: the other way", "loom " + ONE + "l1;", "turn 0 1 = 3", "slips 0 1 3 0 = 1", "slips 0 1 3 1 = 1", "slips 0 0 3 0 = 7", "comb 0 = 39",
            "slips 0 1 3 0 = 7");
        edge("SLIPS by TWIST as it is: a DOUBLE one of L of 1", "loom t1,0,0123;p0;l1;", "slips 0 0 10 0 = 1", "slips 0 0 10 1 = 1");
        edge("SLIPS: where the BAND is full, too", "loom " + ONE + "l40;", "24 times weave 0 0", "still slips 0 0 3 0 = 7", "still slips 0 0 3 1 = 10");
    }

    private static void bandsNumbers() {
        edge("BANDS by z (0 to 9999)", "loom " + ONE, "still bands -1 1 0 = BAD", "bands 0 1 0 = 1", "still bands 9999 60 0 = 42", "still bands 10000 1 0 = BAD",
            "still bands MIN 1 0 = BAD", "still bands MAX 1 0 = BAD");
        edge("BANDS of n (1 to 60)", "loom " + ONE, "still bands 0 0 0 = BAD", "bands 0 1 0 = 1", "still bands 0 60 0 = 46", "still bands 0 61 0 = BAD", "still bands 0 -1 0 = BAD",
            "still bands 0 MIN 0 = BAD", "still bands 0 MAX 0 = BAD");
        edge("BANDS: ROWS (what = 0), JAMS (1)", "loom " + ONE + "l1;", "still bands 0 60 -1 = BAD", "bands 0 3 0 = 2", "bands 0 3 1 = 1", "still bands 0 60 2 = BAD",
            "still bands 0 60 MIN = BAD", "still bands 0 60 MAX = BAD");
    }

    /** Draws of z = 0: 1, 41487 (cut), 10299, 37479 (cut), 57506, 4859 (back); of z = 3: 44670 (comb), then one forward. */
    private static void bandsDraws() {
        edge("BANDS: the BAND is CUT OFF by 7", "loom " + ONE, "still bands 0 2 0 = 1", "bands 0 2 1 = 0", "24 times weave 0 1", "bands 0 1 0 = 0", "bands 0 3 0 = 1");
        edge("BANDS: a TABLET is COMBED by 6", "loom " + ONE + "l1;", "turn 0 0 = 1", "still bands 3 1 0 = 0", "still bands 3 1 1 = 0", "bands 0 1 1 = 1");
        edge("BANDS: COMBED it JAMS no more", "loom " + ONE + "l1;", "turn 0 0 = 1", "bands 3 2 0 = 1", "bands 3 2 1 = 0", "bands 0 1 0 = 1", "bands 0 1 1 = 1");
        edge("BANDS: BACK by 64, cut, modulo 2", "loom " + ONE + "l1;", "turn 0 1 = 3", "bands 0 1 1 = 0", "bands 0 5 1 = 1", "bands 0 6 1 = 1");
        edge("BANDS: nothing changes", "loom " + T + T + "p0;p1;l2;", "weave 0 0 = 10", "weave 1 1 = 13", "keep = 1", "still bands 5000 60 0 = 47",
            "still bands 9999 60 1", "count 4 = 2", "count 7 = 2", "tablet 1 4 = 39");
    }

    /** 44670 by 8, cut, is 5583: modulo 2 that is 1, modulo 4 and 6 it is 3; of 10299 it is 1287: 1 and 3. */
    private static void bandsWhich() {
        edge("BANDS: TABLET (DRAW by 8, cut) modulo as many: of two", "loom " + T + T + "p01;l1;", "turn 1 0 = 1", "bands 3 2 1 = 0", "comb 1 = 41", "turn 0 0 = 1",
            "bands 3 2 1 = 1");
        edge("BANDS: TABLET (DRAW by 8, cut) modulo as many: of four", "loom " + T + T + T + T + "p0123;l1;", "turn 3 0 = 1", "bands 3 2 1 = 0", "turn 1 0 = 1", "turn 0 0 = 1",
            "bands 3 2 1 = 2");
        edge("BANDS: TABLET (DRAW by 8, cut) modulo as many: of six", "loom " + SIX + "p012345;l1;", "turn 3 0 = 1", "bands 3 2 1 = 0", "turn 1 0 = 1", "turn 5 0 = 1",
            "bands 3 2 1 = 2");
        edge("BANDS: PACK (DRAW by 8, cut) modulo as many: of two", "loom " + T + T + "p0;p1;l1;", "turn 0 1 = 3", "turn 1 0 = 1", "bands 0 1 1 = 0", "bands 0 3 1 = 1");
        edge("BANDS: PACK (DRAW by 8, cut) modulo as many: of six", "loom " + SIX + "p0;p1;p2;p3;p4;p5;l1;", "turn 3 0 = 1", "bands 0 1 1 = 0", "bands 0 3 1 = 1", "comb 3 = 41",
            "turn 4 0 = 1", "turn 1 0 = 1", "bands 0 3 1 = 0");
    }

    private static void bandsRoom() {
        edge("BANDS: if there is room for it: 24, with no cut", "loom " + ONE, "bands 251 60 0 = 24", "24 times weave 0 0", "bands 251 60 0 = 0");
        edge("BANDS: if there is room for it: 24 behind a cut", "loom " + ONE, "bands 431 60 0 = 24", "bands 9761 55 0 = 25", "bands 9761 60 0 = 28", "24 times weave 0 0",
            "bands 431 60 0 = 24", "bands 9761 55 0 = 24");
        edge("BANDS: if there is room for it: none", "loom " + ONE + "l40;", "24 times weave 0 0", "still bands 0 1 0 = 0", "bands 0 2 0 = 0", "bands 0 3 0 = 1", "bands 0 6 0 = 3");
        edge("BANDS: if there is room for it: one", "loom " + ONE + "l40;", "23 times weave 0 0", "still bands 0 1 0 = 1", "bands 0 3 0 = 2");
        edge("BANDS: what has no room does not JAM", "loom " + ONE + "l1;", "24 times weave 0 0", "tablet 0 4 = 41", "bands 0 1 1 = 0", "unweave = 23", "bands 0 1 1 = 1");
        edge("BANDS: a PACK of all JAMS as often as its TABLETS do", "loom t1,0,0123;t1,0,0123;t1,0,0123;t1,0,0123;t1,0,0123;t1,0,0123;p012345;l1;", "bands 0 1 0 = 1",
            "bands 0 1 1 = 6", "bands 0 3 1 = 12");
    }

    private static void keep() {
        edge("KEPT: 2 at most: the second, one more", "loom " + ONE, "keep = 1", "count 8 = 1", "keep = 2", "count 8 = 2", "still keep = FULL", "weave 0 0 = 1",
            "still keep = FULL", "back = 1", "top 0 = 0");
        edge("KEPT: room for one more behind back", "loom " + ONE, "keep = 1", "weave 0 0 = 1", "keep = 2", "weave 0 0 = 2", "back = 1", "weave 0 1 = 0", "weave 0 1 = 3",
            "keep = 2", "still keep = FULL", "weave 0 1 = 2", "back = 1", "top 0 = 3", "back = 0", "top 0 = 0", "still back = NO");
        edge("KEPT: what can be UNDONE stays by keep", "loom " + ONE, "2 times weave 0 0", "keep = 1", "count 7 = 2", "undo = 1", "undo = 0", "top 0 = 0", "count 8 = 1",
            "back = 0", "top 0 = 2");
        edge("KEPT: nothing WOVEN yet", "loom " + ONE, "keep = 1", "4 times weave 0 0", "flip 0 = 1", "back = 0", "count 4 = 0", "top 0 = 0", "tablet 0 4 = 40",
            "tablet 0 1 = 0", "still row 0 0 = NONE", "still unweave = NO");
    }

    private static void back() {
        edge("back: NO", "loom " + ONE, "still back = NO", "weave 0 0 = 1", "still back = NO", "count 7 = 1", "keep = 1", "back = 0", "still back = NO");
        edge("back: NO at first", "still back = NO");
        edge("back: nothing is UNDONE then", "loom " + ONE, "keep = 1", "9 times weave 0 0", "count 7 = 8", "back = 0", "count 7 = 0", "still undo = NO", "weave 0 1 = 3",
            "count 7 = 1", "undo = 0", "top 0 = 0", "still undo = NO");
        edge("back: As KEPT last, then the one ahead of it", "loom " + ONE, "weave 0 0 = 1", "keep = 1", "weave 0 0 = 2", "keep = 2", "weave 0 0 = 3", "back = 1", "top 0 = 2",
            "count 4 = 2", "back = 0", "top 0 = 1", "count 4 = 1", "still back = NO", "top 0 = 1");
        edge("back: what is SEEN stays", "loom " + ONE, "see 1 = 1", "keep = 1", "see 2 = 2", "back = 0", "count 6 = 2", "ways = 1", "forget = 2", "keep = 1", "see 3 = 1",
            "back = 0", "count 6 = 1");
        edge("back: what is SEEN stays, nothing, too", "loom " + ONE, "see 1 = 1", "keep = 1", "forget = 1", "back = 0", "count 6 = 0", "ways = 1", "lies = 4");
        edge("back: THE TEXT stays", "loom " + ONE, "keep = 1", "write 32 = 14", "back = 0", "count 9 = 14", "fault = 13", "keep = 1", "wipe = 14", "back = 0", "count 9 = 0",
            "fault = NONE");
    }

    private static void backBrings() {
        edge("KEPT is all as it stands: 24 ROWS", "loom " + ONE + "l40;", "24 times weave 0 0", "keep = 1", "cut = 24", "weave 0 1 = 3", "back = 0", "count 4 = 24",
            "row 0 0 = 1", "row 23 0 = 0", "row 22 1 = 0", "still weave 0 0 = FULL", "unweave = 23", "top 0 = 3", "unweave = 22", "top 0 = 2");
        edge("KEPT is all as it stands: TWIST, SLANT, S, FLOATS", "loom " + T + T + "p0;l2;", "2 times weave 0 1", "flip 0 = 1", "flip 1 = 1", "keep = 1", "comb 0 = 38",
            "flip 0 = 0", "flip 1 = 0", "weave 0 0 = 30", "turn 1 1 = 3", "back = 0", "tablet 0 1 = 1", "tablet 0 2 = 2", "tablet 0 4 = 38", "tablet 0 5 = 0", "tablet 0 6 = 0",
            "tablet 1 1 = 1", "tablet 1 2 = 0", "tablet 1 5 = 2", "tablet 1 6 = 1", "still turn 0 1 = NO");
        edge("KEPT it is no more then: what is done behind back leaves the other", "loom " + ONE, "keep = 1", "weave 0 0 = 1", "keep = 2", "back = 1", "flip 0 = 1", "weave 0 0 = 2",
            "back = 0", "tablet 0 1 = 0", "top 0 = 0", "count 4 = 0");
        edge("KEPT: undo does not reach it", "loom " + ONE, "weave 0 0 = 1", "keep = 1", "undo = 0", "count 8 = 1", "still undo = NO", "back = 0", "top 0 = 1", "count 4 = 1");
    }
}
