/** Edges of section 2 and of promises 12 to 19: turning, jams, floats, the band, what can be undone. */
public final class WeavingEdgesTest extends EdgeChecks {
    private static final String ONE = "t0,0,0123;p0;";
    private static final String DOUBLE = "t1,0,0123;p0;";
    private static final String CONTRARY = "t2,0,0123;p0;";
    private static final String LAME = "t3,0,0123;p0;";
    private static final String KINDS = "t0,0,0123;t1,0,0123;t2,0,0123;t3,0,0123;p0123;p0;p1;p2;p3;";

    public static void main(String[] args) {
        turnedRound();
        jamsOfPlain();
        jamsOfOthers();
        jamsInAPack();
        slants();
        floats();
        weave();
        room();
        again();
        againRoom();
        unweave();
        unweaveAll();
        turn();
        turnJams();
        flip();
        comb();
        cut();
        undoNone();
        undoLastEight();
        undoEach();
        end("edges of weaving");
    }

    private static void turnedRound() {
        edge("behind 3 comes 0", "loom " + ONE, "weave 0 0 = 1", "weave 0 0 = 2", "weave 0 0 = 3", "tablet 0 2 = 3", "weave 0 0 = 0", "tablet 0 2 = 0",
            "tablet 0 4 = 44", "weave 0 0 = 1", "tablet 0 4 = 45");
        edge("ahead of 0 is 3", "loom " + ONE, "tablet 0 2 = 0", "weave 0 1 = 3", "tablet 0 2 = 3", "weave 0 1 = 2", "weave 0 1 = 1", "weave 0 1 = 0",
            "tablet 0 4 = 36", "weave 0 1 = 3", "tablet 0 4 = 35");
        edge("a DOUBLE one by two, round", "loom " + DOUBLE, "weave 0 0 = 2", "tablet 0 4 = 42", "weave 0 0 = 0", "tablet 0 4 = 44", "weave 0 1 = 2",
            "weave 0 1 = 0", "weave 0 1 = 2", "tablet 0 4 = 38");
        edge("a CONTRARY one the other way, round", "loom " + CONTRARY, "weave 0 0 = 3", "tablet 0 4 = 39", "weave 0 0 = 2", "weave 0 0 = 1", "weave 0 0 = 0",
            "weave 0 1 = 1", "tablet 0 4 = 37", "weave 0 1 = 2", "weave 0 1 = 3", "weave 0 1 = 0", "tablet 0 4 = 40");
        edge("a LAME one by a quarter FORWARD, BACK not at all", "loom " + LAME, "weave 0 1 = 0", "tablet 0 4 = 40", "tablet 0 6 = 0", "weave 0 0 = 1",
            "weave 0 1 = 1", "tablet 0 4 = 41", "tablet 0 6 = 0", "weave 0 0 = 2", "weave 0 0 = 3", "weave 0 0 = 0", "weave 0 1 = 0", "tablet 0 4 = 44");
        edge("TURNED by hand: round, too", "loom " + KINDS, "3 times turn 0 0", "turn 0 0 = 0", "turn 0 1 = 3", "turn 1 0 = 2", "turn 1 0 = 0", "turn 1 1 = 2",
            "turn 2 0 = 3", "turn 2 1 = 0", "turn 2 1 = 1", "3 times turn 3 0", "turn 3 0 = 0", "turn 3 1 = 0");
    }

    private static void jamsOfPlain() {
        edge("It JAMS if its TWIST would be more than L: L of 1", "loom " + ONE + "l1;", "weave 0 0 = 1", "tablet 0 4 = 41", "weave 0 0 = 1", "tablet 0 4 = 41",
            "weave 0 1 = 0", "weave 0 1 = 3", "tablet 0 4 = 39", "weave 0 1 = 3", "tablet 0 4 = 39", "tablet 0 5 = 1");
        edge("It JAMS if its TWIST would be more than L: L of 40", "loom " + ONE + "l40;", "39 times turn 0 0", "turn 0 0 = 0", "tablet 0 4 = 80",
            "weave 0 0 = 0", "tablet 0 4 = 80", "tablet 0 5 = 1", "still turn 0 0 = NO", "weave 0 1 = 3", "tablet 0 4 = 79");
        edge("It JAMS if its TWIST would be more than L: L of 40, the other way", "loom " + ONE + "l40;", "39 times turn 0 1", "turn 0 1 = 0", "tablet 0 4 = 0",
            "weave 0 1 = 0", "tablet 0 4 = 0", "tablet 0 5 = 1", "still turn 0 1 = NO", "weave 0 0 = 1", "tablet 0 4 = 1");
        edge("It JAMS: L of 20 without", "loom " + ONE, "19 times weave 0 0", "tablet 0 4 = 59", "weave 0 0 = 0", "tablet 0 4 = 60", "tablet 0 5 = 0", "weave 0 0 = 0",
            "tablet 0 4 = 60", "tablet 0 5 = 1");
    }

    private static void jamsOfOthers() {
        edge("a DOUBLE one JAMS as a whole: L of 1", "loom " + DOUBLE + "l1;", "weave 0 0 = 0", "tablet 0 4 = 40", "tablet 0 5 = 1", "weave 0 1 = 0", "tablet 0 4 = 40",
            "tablet 0 5 = 2", "still turn 0 0 = NO", "still turn 0 1 = NO");
        edge("a DOUBLE one just bears it: L of 2", "loom " + DOUBLE + "l2;", "weave 0 0 = 2", "tablet 0 4 = 42", "weave 0 0 = 2", "tablet 0 4 = 42", "tablet 0 5 = 1",
            "weave 0 1 = 0", "weave 0 1 = 2", "tablet 0 4 = 38", "weave 0 1 = 2", "tablet 0 4 = 38");
        edge("a DOUBLE one JAMS one ahead of L: L of 3", "loom " + DOUBLE + "l3;", "turn 0 0 = 2", "still turn 0 0 = NO", "weave 0 0 = 2", "tablet 0 4 = 42",
            "turn 0 1 = 0", "turn 0 1 = 2", "still turn 0 1 = NO");
        edge("a CONTRARY one JAMS by how it is TURNED", "loom " + CONTRARY + "l1;", "weave 0 0 = 3", "tablet 0 4 = 39", "weave 0 0 = 3", "tablet 0 4 = 39",
            "tablet 0 5 = 1", "still turn 0 0 = NO", "turn 0 1 = 0", "turn 0 1 = 1", "still turn 0 1 = NO", "weave 0 1 = 1", "tablet 0 4 = 41");
        edge("a LAME one JAMS FORWARD, BACK never", "loom " + LAME + "l1;", "weave 0 0 = 1", "tablet 0 5 = 0", "weave 0 0 = 1", "tablet 0 4 = 41", "tablet 0 5 = 1",
            "still turn 0 0 = NO", "turn 0 1 = 1", "weave 0 1 = 1", "tablet 0 5 = 2", "bands 0 1 1 = 1", "jammed = NONE");
    }

    private static void jamsInAPack() {
        edge("what JAMS is not TURNED at all, the others of its PACK are", "loom " + KINDS + "l3;", "4 times weave 1 0", "weave 0 0 = 3231", "tablet 0 4 = 43",
            "tablet 0 5 = 2", "tablet 1 4 = 42", "tablet 1 5 = 0", "tablet 2 4 = 39", "tablet 2 5 = 0", "tablet 3 4 = 41", "tablet 3 5 = 0");
        edge("all JAM: a ROW is WOVEN, too", "loom " + ONE + "l1;", "weave 0 0 = 1", "weave 0 0 = 1", "count 4 = 2", "row 1 0 = 1", "count 7 = 2", "unweave = 1",
            "tablet 0 5 = 0");
        edge("COMBED it JAMS no more", "loom " + ONE + "l1;", "turn 0 0 = 1", "still turn 0 0 = NO", "comb 0 = 41", "turn 0 0 = 2", "still turn 0 0 = NO");
    }

    private static void slants() {
        edge("SLANT is S, if it was not TURNED yet", "loom t0,0,0123;t0,1,0123;p0;", "tablet 0 6 = 0", "tablet 1 6 = 1", "weave 0 1 = 30", "tablet 1 6 = 1",
            "flip 1 = 0", "tablet 1 6 = 0");
        edge("SLANT is S, if FORWARD the last time", "loom t0,0,0123;t0,1,0123;p01;", "weave 0 1 = 33", "weave 0 0 = 0", "tablet 0 6 = 0", "tablet 1 6 = 1", "row 1 1 = 2");
        edge("SLANT is 1 less S, if BACK the last time", "loom t0,0,0123;t0,1,0123;p01;", "weave 0 0 = 11", "weave 0 1 = 0", "tablet 0 6 = 1", "tablet 1 6 = 0", "row 1 1 = 1");
        edge("SLANT of a CONTRARY one: by how it is TURNED", "loom " + CONTRARY, "weave 0 0 = 3", "tablet 0 6 = 1", "weave 0 1 = 0", "tablet 0 6 = 0");
        edge("SLANT of a DOUBLE one", "loom " + DOUBLE, "weave 0 1 = 2", "tablet 0 6 = 1", "weave 0 0 = 0", "tablet 0 6 = 0");
        edge("SLANT: what JAMS was not TURNED", "loom " + ONE + "l1;", "weave 0 0 = 1", "weave 0 0 = 1", "tablet 0 6 = 0", "weave 0 1 = 0", "weave 0 1 = 3",
            "weave 0 1 = 3", "tablet 0 6 = 1", "turn 0 0 = 0", "tablet 0 6 = 0");
        edge("SLANT: what JAMS the first time was not TURNED yet", "loom " + DOUBLE + "l1;", "weave 0 1 = 0", "tablet 0 6 = 0", "row 0 1 = 0");
        edge("SLANT: a LAME one BACK was not TURNED", "loom t3,1,0123;p0;", "weave 0 1 = 0", "tablet 0 6 = 1", "turn 0 1 = 0", "tablet 0 6 = 1", "weave 0 0 = 1",
            "weave 0 1 = 1", "tablet 0 6 = 1");
        edge("SLANT: FLIPPED, COMBED, CUT OFF do not turn it", "loom " + ONE, "weave 0 1 = 3", "flip 0 = 1", "tablet 0 6 = 0", "comb 0 = 39", "tablet 0 6 = 0",
            "cut = 1", "tablet 0 6 = 0", "flip 0 = 0", "tablet 0 6 = 1");
    }

    private static void floats() {
        edge("FLOATS for one PICK more (99 at most)", "loom t0,0,0123;t3,0,0123;p0;p1;", "24 times weave 0 0", "cut = 24", "24 times weave 0 1",
            "cut = 24", "24 times weave 0 0", "cut = 24", "24 times weave 0 1", "cut = 24", "weave 0 0", "weave 0 1", "tablet 1 5 = 98", "weave 0 0",
            "tablet 1 5 = 99", "weave 0 1", "tablet 1 5 = 99", "weave 0 0", "tablet 1 5 = 99", "unweave = 4", "unweave = 3", "tablet 1 5 = 99", "unweave = 2",
            "tablet 1 5 = 98", "weave 1 0", "tablet 1 5 = 0", "weave 0 0", "tablet 1 5 = 1");
        edge("others for none", "loom t0,0,0123;t0,0,0123;p0;p1;", "weave 0 0 = 10", "tablet 0 5 = 0", "tablet 1 5 = 1", "weave 0 0 = 20", "tablet 1 5 = 2",
            "weave 1 1 = 23", "tablet 1 5 = 0", "tablet 0 5 = 1");
        edge("what JAMS FLOATS", "loom " + ONE + "l1;", "weave 0 0 = 1", "tablet 0 5 = 0", "weave 0 0 = 1", "tablet 0 5 = 1", "weave 0 0 = 1", "tablet 0 5 = 2",
            "weave 0 1 = 0", "tablet 0 5 = 0");
        edge("a LAME one BACK FLOATS", "loom " + LAME, "weave 0 1 = 0", "tablet 0 5 = 1", "weave 0 1 = 0", "tablet 0 5 = 2", "weave 0 0 = 1", "tablet 0 5 = 0");
        edge("TURNED by hand: FLOATS stay", "loom t0,0,0123;t0,0,0123;p0;", "weave 0 0 = 10", "turn 1 0 = 1", "tablet 1 5 = 1", "turn 0 0 = 2", "tablet 0 5 = 0",
            "tablet 1 5 = 1", "weave 0 0 = 31", "tablet 1 5 = 2");
        edge("FLIPPED, COMBED, CUT OFF: FLOATS stay", "loom t0,0,0123;t0,0,0123;p0;", "weave 0 0 = 10", "flip 1 = 1", "comb 1 = 40", "cut = 1", "tablet 1 5 = 1",
            "tablet 0 5 = 0");
    }

    private static void weave() {
        edge("weave: a PACK such as there is, of one", "loom " + ONE, "still weave -1 0 = BAD", "still weave 1 0 = BAD", "still weave MIN 0 = BAD", "still weave MAX 0 = BAD",
            "weave 0 0 = 1");
        edge("weave: a PACK such as there is, of four", "still weave -1 0 = BAD", "still weave 4 0 = BAD", "weave 0 0 = 121222", "weave 3 0 = 221221");
        edge("weave: FORWARD 0, BACK 1", "loom " + ONE, "still weave 0 -1 = BAD", "still weave 0 2 = BAD", "still weave 0 MIN = BAD", "still weave 0 MAX = BAD",
            "weave 0 0 = 1", "weave 0 1 = 0");
        edge("weave: what is BAD can not be UNDONE", "loom " + ONE, "weave 0 2 = BAD", "weave 9 0 = BAD", "count 7 = 0", "still undo = NO");
    }

    private static void room() {
        edge("a ROW is WOVEN (24 at most): the 24th, one more", "loom " + ONE + "l40;", "23 times weave 0 0", "count 4 = 23", "weave 0 0 = 0", "count 4 = 24",
            "still weave 0 0 = FULL", "still weave 0 1 = FULL", "tablet 0 4 = 64");
        edge("weave: BAD is ahead of FULL", "loom " + ONE, "24 times weave 0 0", "still weave 1 0 = BAD", "still weave -1 0 = BAD", "still weave 0 2 = BAD",
            "still weave 0 -1 = BAD", "still weave 0 0 = FULL");
        edge("a ROW is WOVEN: room for one more behind unweave", "loom " + ONE + "l40;", "24 times weave 0 0", "unweave = 23", "weave 0 1 = 2", "row 23 0 = 2",
            "still weave 0 1 = FULL");
        edge("a ROW is WOVEN: room for 24 behind cut", "loom " + ONE + "l40;", "24 times weave 0 0", "cut = 24", "count 4 = 0", "weave 0 0 = 1", "row 0 0 = 1",
            "row 1 0 = NONE", "23 times weave 0 1", "count 4 = 24", "still weave 0 0 = FULL");
        edge("a ROW is WOVEN: room again when UNDONE", "loom " + ONE + "l40;", "24 times weave 0 0", "still weave 0 0 = FULL", "undo = 7", "weave 0 1 = 2",
            "still weave 0 0 = FULL");
        edge("FULL: by hand it is TURNED, FLIPPED, COMBED yet", "loom " + ONE, "24 times weave 0 1", "turn 0 0 = 1", "flip 0 = 1", "comb 0 = 21", "count 4 = 24");
    }

    private static void again() {
        edge("again: NO: there is none", "loom " + ONE, "still again = NO", "count 4 = 0", "count 7 = 0");
        edge("again: NO is ahead of FULL", "loom " + ONE, "24 times weave 0 0", "still again = NO");
        edge("again: a DRAFT of one", "loom " + ONE + "d0b;", "again = 1", "count 4 = 1", "row 0 0 = 3", "row 1 0 = NONE", "count 7 = 1", "undo = 0", "count 4 = 0");
        edge("again: a DRAFT of eight", "loom " + ONE + "d0f0f0f0b0b0b0b0b;", "again = 8", "count 4 = 8", "row 2 0 = 3", "row 7 0 = 2", "row 8 0 = NONE");
        edge("again: all of it is one that can be UNDONE", "loom " + ONE + "d0f0f0f0b0b0b0b0b;", "weave 0 0 = 1", "again = 8", "count 7 = 2", "undo = 1", "count 4 = 1",
            "top 0 = 1", "tablet 0 4 = 41", "undo = 0", "count 4 = 0");
        edge("again: UNWOVEN row by row", "loom " + ONE + "d0f0f0f;", "again = 3", "unweave = 2", "top 0 = 2", "unweave = 1", "top 0 = 1");
        edge("again: what JAMS in it", "loom " + ONE + "l1;d0f0f0b;", "again = 3", "row 0 0 = 1", "row 1 0 = 1", "row 2 0 = 0", "tablet 0 4 = 40");
    }

    private static void againRoom() {
        String eight = "loom " + ONE + "l40;d0f0f0f0b0b0b0b0b;";
        edge("again: room for all of it, just", eight, "16 times weave 0 0", "again = 8", "count 4 = 24", "still again = FULL");
        edge("again: as far as there is room, one less", eight, "17 times weave 0 0", "again = 7", "count 4 = 24", "row 23 0 = 0", "tablet 0 4 = 56", "still again = FULL");
        edge("again: as far as there is room, one", eight, "23 times weave 0 0", "again = 1", "count 4 = 24", "row 23 0 = 0", "tablet 0 4 = 64", "undo = 7",
            "count 4 = 23", "top 0 = 3");
        edge("again: FULL: no room", eight, "24 times weave 0 0", "still again = FULL", "top 0 = 0", "count 7 = 8");
        edge("again: behind unweave and cut there is room", eight, "3 times again = 8", "still again = FULL", "unweave = 23", "again = 1", "cut = 24", "again = 8");
    }

    private static void unweave() {
        edge("unweave: NO: none", "loom " + ONE, "still unweave = NO", "turn 0 0 = 1", "still unweave = NO", "count 7 = 1");
        edge("unweave: NO: none behind cut", "loom " + ONE, "2 times weave 0 0", "cut = 2", "still unweave = NO", "top 0 = 2");
        edge("unweave: the first ROW", "loom " + ONE, "weave 0 1 = 3", "unweave = 0", "top 0 = 0", "tablet 0 4 = 40", "tablet 0 6 = 0", "still row 0 0 = NONE",
            "still unweave = NO", "count 7 = 2", "undo = 1", "top 0 = 3", "row 0 0 = 3");
        edge("unweave: as ahead of its PICK, what is done by hand behind it, too", "loom " + ONE + "l3;", "weave 0 0 = 1", "weave 0 0 = 2", "flip 0 = 1", "turn 0 0 = 3",
            "comb 0 = 43", "unweave = 1", "tablet 0 1 = 0", "tablet 0 2 = 1", "tablet 0 4 = 41", "tablet 0 5 = 0", "tablet 0 6 = 0");
        edge("unweave: as ahead of its PICK, what is done by hand ahead of it stays", "loom " + ONE, "weave 0 0 = 1", "flip 0 = 1", "turn 0 1 = 0", "weave 0 0 = 1",
            "unweave = 1", "tablet 0 1 = 1", "tablet 0 2 = 0", "tablet 0 4 = 40", "tablet 0 6 = 0", "unweave = 0", "tablet 0 1 = 0");
        edge("unweave: THREADED so, too", "loom " + ONE, "flip 0 = 1", "weave 0 0 = 1", "flip 0 = 0", "unweave = 0", "tablet 0 1 = 1", "tablet 0 6 = 1");
        edge("unweave: FLOATS as ahead of its PICK", "loom t0,0,0123;t0,0,0123;p0;p1;", "3 times weave 0 0", "weave 1 0 = 31", "tablet 1 5 = 0", "unweave = 3",
            "tablet 1 5 = 3", "tablet 0 5 = 0");
        edge("unweave: TABLETS of no PACK in it, too", "loom t0,0,0123;t0,0,0123;p0;", "weave 0 0 = 10", "turn 1 0 = 1", "flip 1 = 1", "unweave = 0", "top 0 = 0", "top 1 = 0");
    }

    private static void unweaveAll() {
        edge("unweave: from 24 ROWS to none", "loom " + ONE + "l40;", "24 times weave 0 0", "unweave = 23", "top 0 = 3", "22 times unweave", "count 4 = 1", "top 0 = 1",
            "unweave = 0", "top 0 = 0", "tablet 0 4 = 40", "still unweave = NO", "count 7 = 8");
        edge("unweave: ROWS woven behind cut alone", "loom " + ONE, "2 times weave 0 0", "cut = 2", "weave 0 1 = 1", "unweave = 0", "top 0 = 2", "still unweave = NO");
        edge("unweave: UNDONE", "loom " + ONE, "2 times weave 0 0", "unweave = 1", "undo = 2", "count 4 = 2", "top 0 = 2", "row 1 0 = 2", "unweave = 1", "unweave = 0", "top 0 = 0");
        edge("unweave: a row where all JAMMED", "loom " + ONE + "l1;", "weave 0 0 = 1", "weave 0 0 = 1", "comb 0 = 41", "unweave = 1", "tablet 0 4 = 41", "still turn 0 0 = NO");
    }

    private static void turn() {
        edge("turn: a TABLET such as there is, of one", "loom " + ONE, "still turn -1 0 = BAD", "still turn 1 0 = BAD", "still turn MIN 0 = BAD", "still turn MAX 0 = BAD",
            "turn 0 0 = 1");
        edge("turn: a TABLET such as there is, of six", "still turn -1 0 = BAD", "still turn 6 0 = BAD", "turn 5 0 = 1", "turn 0 0 = 1");
        edge("turn: FORWARD 0, BACK 1", "loom " + ONE, "still turn 0 -1 = BAD", "still turn 0 2 = BAD", "still turn 0 MIN = BAD", "still turn 0 MAX = BAD", "turn 0 0 = 1",
            "turn 0 1 = 0");
        edge("turn: no ROW is WOVEN", "loom " + ONE, "turn 0 0 = 1", "count 4 = 0", "still row 0 0 = NONE", "still unweave = NO", "count 7 = 1", "undo = 0", "top 0 = 0");
        edge("turn: a LAME one BACK stays, but can be UNDONE", "loom " + LAME, "turn 0 1 = 0", "count 7 = 1", "tablet 0 4 = 40", "tablet 0 6 = 0", "turn 0 0 = 1",
            "turn 0 1 = 1", "count 7 = 3", "undo = 2", "top 0 = 1", "undo = 1", "top 0 = 0");
        edge("turn: which HOLE, not which COLOUR", "loom t0,0,9876;p0;", "turn 0 0 = 1", "turn 0 1 = 0", "turn 0 1 = 3");
    }

    private static void turnJams() {
        edge("turn: NO: it JAMS", "loom " + ONE + "l2;", "turn 0 0 = 1", "turn 0 0 = 2", "still turn 0 0 = NO", "count 7 = 2", "4 times turn 0 1", "tablet 0 4 = 38",
            "still turn 0 1 = NO", "tablet 0 2 = 2");
        edge("turn: BAD is ahead of NO", "loom " + ONE + "l1;", "turn 0 0 = 1", "still turn 0 2 = BAD", "still turn 0 -1 = BAD", "still turn 1 0 = BAD", "still turn 0 0 = NO");
        edge("turn: what JAMS as a whole by two", "loom " + DOUBLE + "l1;", "still turn 0 0 = NO", "still turn 0 1 = NO");
        edge("turn: a LAME one BACK does not JAM", "loom " + LAME + "l1;", "turn 0 0 = 1", "still turn 0 0 = NO", "turn 0 1 = 1", "tablet 0 4 = 41");
        edge("turn: a CONTRARY one JAMS the other way", "loom " + CONTRARY + "l1;", "turn 0 0 = 3", "still turn 0 0 = NO", "turn 0 1 = 0", "turn 0 1 = 1",
            "still turn 0 1 = NO");
    }

    private static void flip() {
        edge("flip: a TABLET such as there is", "loom " + ONE, "still flip -1 = BAD", "still flip 1 = BAD", "still flip MIN = BAD", "still flip MAX = BAD", "flip 0 = 1");
        edge("flip: a TABLET such as there is, of six", "still flip -1 = BAD", "still flip 6 = BAD", "flip 5 = 0", "flip 0 = 1");
        edge("flip: S becomes 1 less S, and again", "loom t0,0,0123;t0,1,0123;p0;", "flip 0 = 1", "flip 1 = 0", "tablet 0 1 = 1", "tablet 1 1 = 0", "top 1 = 1",
            "flip 0 = 0", "flip 1 = 1", "tablet 0 1 = 0", "tablet 1 1 = 1", "top 1 = 2", "count 7 = 4");
        edge("flip: what is WOVEN stays", "loom " + ONE, "weave 0 0 = 1", "flip 0 = 1", "row 0 1 = 0", "top 1 = 1", "top 0 = 1", "tablet 0 4 = 41");
    }

    private static void comb() {
        edge("comb: a TABLET such as there is", "loom " + ONE, "still comb -1 = BAD", "still comb 1 = BAD", "still comb MIN = BAD", "still comb MAX = BAD", "comb 0 = 40");
        edge("comb: a TABLET such as there is, of six", "still comb -1 = BAD", "still comb 6 = BAD", "comb 5 = 40", "comb 0 = 40");
        edge("comb: its TWIST, and 40, as it was: none", "loom " + ONE, "comb 0 = 40", "tablet 0 4 = 40", "count 7 = 1");
        edge("comb: its TWIST, and 40, as it was: the most", "loom " + ONE + "l40;", "40 times turn 0 0", "comb 0 = 80", "tablet 0 4 = 40", "top 0 = 0", "40 times turn 0 1",
            "tablet 0 4 = 0", "still turn 0 1 = NO", "comb 0 = 0", "tablet 0 4 = 40", "turn 0 1 = 3");
        edge("comb: HOLE and SLANT stay", "loom " + ONE, "3 times weave 0 1", "comb 0 = 37", "tablet 0 2 = 1", "tablet 0 6 = 1", "count 4 = 3", "undo = 3", "tablet 0 4 = 37");
    }

    private static void cut() {
        edge("cut: none: that can be UNDONE, too", "loom " + ONE, "cut = 0", "count 7 = 1", "cut = 0", "count 7 = 2", "undo = 1", "undo = 0", "still undo = NO");
        edge("cut: how many ROWS it had: one", "loom " + ONE, "weave 0 0 = 1", "cut = 1", "count 4 = 0", "top 0 = 1", "tablet 0 4 = 41");
        edge("cut: how many ROWS it had: 24", "loom " + ONE, "24 times weave 0 0", "cut = 24", "count 4 = 0", "still row 0 0 = NONE", "still row 23 0 = NONE", "cut = 0");
        edge("cut: UNDONE all ROWS are in it again", "loom " + ONE + "l40;", "24 times weave 0 0", "cut = 24", "weave 0 0 = 1", "undo = 7", "undo = 6", "count 4 = 24",
            "row 0 0 = 1", "row 23 0 = 0", "still weave 0 0 = FULL", "unweave = 23");
    }

    private static void undoNone() {
        edge("undo: NO", "loom " + ONE, "still undo = NO", "weave 0 0 = 1", "undo = 0", "still undo = NO", "top 0 = 0");
        edge("undo: NO at first", "still undo = NO");
        edge("undo: what answers NO or FULL can not be UNDONE", "loom " + DOUBLE + "l1;", "turn 0 0 = NO", "unweave = NO", "again = NO", "count 7 = 0", "still undo = NO",
            "24 times weave 0 0", "8 times undo", "8 times weave 0 0", "count 7 = 8", "weave 0 0 = FULL", "undo = 7", "count 4 = 23");
        edge("undo: what is UNDONE can not be UNDONE", "loom " + ONE, "2 times weave 0 0", "undo = 1", "undo = 0", "top 0 = 0", "still undo = NO");
        edge("undo: see, forget, keep, write, wipe, lay's NO, looks are none", "loom " + ONE, "weave 0 0 = 1", "see 1 = 1", "keep = 1", "write 32 = 14", "lay = NO", "bands 0 9 0",
            "fewest 3 0", "jammed", "count 7 = 1", "undo = 0", "count 6 = 1", "count 8 = 1", "count 9 = 14", "forget = 1", "wipe = 14", "count 7 = 0");
    }

    private static void undoLastEight() {
        edge("the last 8 can be UNDONE: eight", "loom " + ONE, "8 times weave 0 0", "count 7 = 8", "undo = 7", "6 times undo", "undo = 0", "count 4 = 0", "top 0 = 0",
            "still undo = NO");
        edge("the last 8 can be UNDONE: nine", "loom " + ONE, "9 times weave 0 0", "count 7 = 8", "undo = 7", "count 4 = 8", "6 times undo", "undo = 0", "count 4 = 1",
            "top 0 = 1", "still undo = NO");
        edge("the last 8 can be UNDONE: of many", "loom " + ONE + "l40;", "23 times weave 0 0", "undo = 7", "count 4 = 22", "top 0 = 2", "7 times undo", "count 4 = 15",
            "top 0 = 3", "still undo = NO");
        edge("the last 8 can be UNDONE: 8 more behind them", "loom " + ONE + "l40;", "8 times turn 0 0", "8 times undo", "still undo = NO", "7 times turn 0 1", "count 7 = 7",
            "turn 0 1 = 0", "count 7 = 8", "turn 0 1 = 3", "count 7 = 8", "undo = 7", "top 0 = 0", "7 times undo", "top 0 = 3", "tablet 0 4 = 39", "still undo = NO");
        edge("the last 8 can be UNDONE: some, then others", "loom " + ONE, "5 times weave 0 0", "undo = 4", "undo = 3", "weave 0 1 = 2", "count 7 = 4", "flip 0 = 1",
            "count 7 = 5", "undo = 4", "tablet 0 1 = 0", "undo = 3", "top 0 = 3", "undo = 2", "top 0 = 2", "undo = 1", "top 0 = 1", "undo = 0", "top 0 = 0",
            "still undo = NO");
        edge("the last 8 can be UNDONE: a DRAFT is one of them", "loom " + ONE + "d0f0f;", "again = 2", "7 times flip 0", "count 7 = 8", "7 times undo", "count 4 = 2",
            "undo = 0", "count 4 = 0", "8 times again", "again = 2", "count 7 = 8", "8 times undo", "count 4 = 2", "still undo = NO");
    }

    private static void undoEach() {
        String start = "loom t0,0,0123;t3,1,4567;p01;p0;d1f1b;";
        edge("UNDONE: a PICK", start, "weave 0 0 = 15", "weave 0 1 = 5", "undo = 1", "top 0 = 15", "count 4 = 1", "tablet 1 5 = 0", "row 1 0 = NONE");
        edge("UNDONE: a DRAFT", start, "again = 2", "undo = 0", "count 4 = 0", "tablet 0 6 = 0", "tablet 1 5 = 0");
        edge("UNDONE: the last ROW UNWOVEN", start, "weave 0 0 = 15", "flip 0 = 1", "unweave = 0", "undo = 2", "count 4 = 1", "row 0 0 = 15", "tablet 0 1 = 1");
        edge("UNDONE: TURNED by hand", start, "turn 0 1 = 3", "undo = 0", "tablet 0 2 = 0", "tablet 0 4 = 40", "tablet 0 6 = 0");
        edge("UNDONE: FLIPPED", start, "flip 1 = 0", "undo = 0", "tablet 1 1 = 1", "tablet 0 1 = 0");
        edge("UNDONE: COMBED", start, "weave 0 0 = 15", "comb 1 = 41", "undo = 1", "tablet 1 4 = 41");
        edge("UNDONE: CUT OFF", start, "weave 0 0 = 15", "cut = 1", "undo = 1", "count 4 = 1", "row 0 0 = 15", "row 0 1 = 2", "unweave = 0", "top 0 = 4");
    }
}
