/** Edges of section 3 and of promises 20 to 25: drafts woven round, what they gather, when they jam; how rows can come. */
public final class DraftEdgesTest extends EdgeChecks {
    private static final String T = "t0,0,0123;";
    private static final String ONE = T + "p0;";
    private static final String DOUBLE = "t1,0,0123;p0;";
    private static final String CONTRARY = "t2,0,0123;p0;";
    private static final String LAME = "t3,0,0123;p0;";
    private static final String TWO = T + T + "p0;p1;p01;";
    private static final String OWN = T + T + T + T + T + T + "p0;p1;p2;p3;p4;p5;";

    public static void main(String[] args) {
        round();
        roundOfSeveral();
        twist();
        jammed();
        jammedLast();
        fewestNumbers();
        fewestNone();
        fewestFirst();
        fewestMost();
        can();
        needsNumbers();
        needsFewest();
        needsLowest();
        nothingIsLeft();
        whateverTwist();
        end("edges of drafts");
    }

    private static void round() {
        edge("ROUND: NONE: there is no DRAFT", "loom " + ONE, "still round = NONE", "weave 0 0 = 1", "still round = NONE");
        edge("ROUND: 1 at least: to and fro", "loom " + ONE + "d0f0b;", "still round = 1");
        edge("ROUND: 1 at least: once round", "loom " + ONE + "d0f0f0f0f;", "round = 1");
        edge("ROUND: 1 at least: twice round", "loom " + ONE + "d0b0b0b0b0b0b0b0b;", "round = 1");
        edge("ROUND: 1 at least: a LAME one BACK", "loom " + LAME + "d0b;", "round = 1");
        edge("ROUND: 2", "loom " + ONE + "d0f0f;", "round = 2");
        edge("ROUND: 2, a DOUBLE one", "loom " + DOUBLE + "d0b;", "round = 2");
        edge("ROUND: 4, one FORWARD", "loom " + ONE + "d0f;", "still round = 4");
        edge("ROUND: 4, one BACK", "loom " + ONE + "d0b;", "round = 4");
        edge("ROUND: 4, three FORWARD", "loom " + ONE + "d0f0f0f;", "round = 4");
        edge("ROUND: 4, a CONTRARY one", "loom " + CONTRARY + "d0f;", "round = 4");
        edge("ROUND: 4, a LAME one to and fro", "loom " + LAME + "d0f0b;", "round = 4");
        edge("ROUND: HOLES, not COLOURS", "loom t0,0,0000;p0;d0f;", "round = 4");
        edge("ROUND: as now, wherever", "loom " + ONE + "d0f0f;", "turn 0 0 = 1", "round = 2", "weave 0 1 = 0", "round = 2");
        edge("ROUND: the last DRAFT that is LAID", "loom " + ONE + "d0f;", "round = 4", "wipe = 17", "loom " + ONE + "d0f0f;", "round = 2", "wipe = 19", "loom " + ONE,
            "round = NONE");
    }

    private static void roundOfSeveral() {
        edge("ROUND: all HOLES: 2 and 4", "loom " + T + "t1,0,0123;p01;p0;d0f;", "round = 4");
        edge("ROUND: all HOLES: 2 and 1", "loom " + T + "t1,0,0123;p01;p0;d0f0f;", "round = 2");
        edge("ROUND: all HOLES: 1 and 1", "loom " + T + "t2,0,0123;p01;p0;d0f0b;", "round = 1");
        edge("ROUND: all HOLES: one that is never TURNED", "loom " + T + T + "p0;d0f0f;", "round = 2");
        edge("ROUND: all HOLES: the last alone", "loom " + T + T + T + T + T + T + "p5;d0f;", "round = 4");
        edge("ROUND: all HOLES: as at first", "still round = 4");
        edge("ROUND: when the BAND is full, too", "loom " + ONE + "d0f0f;", "24 times weave 0 0", "still round = 2");
    }

    private static void twist() {
        edge("GATHERS: 40: there is no DRAFT, too", "loom " + ONE, "still twist 0 = 40", "weave 0 0 = 1", "twist 0 = 40");
        edge("GATHERS: of a TABLET such as there is", "loom " + ONE + "d0f;", "still twist -1 = BAD", "twist 0 = 41", "still twist 1 = BAD", "still twist MIN = BAD",
            "still twist MAX = BAD");
        edge("GATHERS: of a TABLET such as there is, of six", "still twist -1 = BAD", "twist 0 = 43", "twist 5 = 42", "still twist 6 = BAD");
        edge("GATHERS: BAD without DRAFT, too", "loom " + ONE, "still twist -1 = BAD", "still twist 1 = BAD");
        edge("GATHERS: the most", "loom " + DOUBLE + "d0f0f0f0f0f0f0f0f;", "twist 0 = 56");
        edge("GATHERS: the least", "loom " + DOUBLE + "d0b0b0b0b0b0b0b0b;", "twist 0 = 24");
        edge("GATHERS: a CONTRARY one the other way", "loom " + CONTRARY + "d0f0f0f0f0f0f0f0f;", "twist 0 = 32");
        edge("GATHERS: a LAME one BACK not at all", "loom " + LAME + "d0b0b0f0b;", "twist 0 = 41");
        edge("GATHERS: to and fro none", "loom " + ONE + "d0f0b;", "twist 0 = 40");
        edge("GATHERS: one of no PACK in it none", "loom " + T + T + "p0;p1;d0f0f;", "twist 0 = 42", "twist 1 = 40");
        edge("GATHERS: by how much more, not how much", "loom " + ONE + "d0f0f;", "3 times weave 0 0", "twist 0 = 42", "comb 0 = 43", "twist 0 = 42");
    }

    private static void jammed() {
        edge("JAMMED: none without DRAFT", "loom " + ONE + "l1;", "still jammed = NONE");
        edge("JAMMED: the first time", "loom " + ONE + "l1;d0f;", "weave 0 0 = 1", "still jammed = 1");
        edge("JAMMED: the first time, the last of its PICKS", "loom " + ONE + "l1;d0f0b0f0b0f0b0f0f;", "still jammed = 1");
        edge("JAMMED: the second time, the first of its PICKS", "loom " + ONE + "l1;d0f;", "still jammed = 2");
        edge("JAMMED: the second time, the last of its PICKS", "loom " + ONE + "l3;d0f0f;", "jammed = 2");
        edge("JAMMED: it goes higher within the DRAFT than behind it", "loom " + ONE + "l2;d0f0f0b;", "twist 0 = 41", "jammed = 2");
        edge("JAMMED: one bears it just", "loom " + ONE + "l2;d0f0f0b0b;", "jammed = NONE");
        edge("JAMMED: one does not bear it", "loom " + ONE + "l1;d0f0f0b0b;", "jammed = 1");
        edge("JAMMED: the other way", "loom " + ONE + "l2;d0b;", "jammed = 3");
        edge("JAMMED: something JAMS first: of two the second", "loom " + T + T + "p0;p1;l8;d0f1f1f;", "jammed = 5");
        edge("JAMMED: something JAMS first: of two in a PACK the DOUBLE one", "loom " + T + "t1,0,0123;p01;l8;d0f;", "jammed = 5");
        edge("JAMMED: a DOUBLE one never bears one", "loom " + DOUBLE + "l1;d0b;", "jammed = 1");
        edge("JAMMED: a CONTRARY one", "loom " + CONTRARY + "l2;d0f;", "turn 0 1 = 1", "jammed = 4");
        edge("JAMMED: a LAME one BACK never", "loom " + LAME + "l1;d0b;", "turn 0 0 = 1", "jammed = NONE");
        edge("JAMMED: from now on: TURNED by hand, COMBED", "loom " + ONE + "l3;d0f;", "jammed = 4", "turn 0 0 = 1", "jammed = 3", "comb 0 = 41", "jammed = 4");
    }

    private static void jammedLast() {
        edge("JAMMED (1 to 60): the last time", "loom " + ONE + "l40;d0f;", "19 times turn 0 1", "still jammed = 60");
        edge("JAMMED (1 to 60): one time behind", "loom " + ONE + "l40;d0f;", "20 times turn 0 1", "still jammed = NONE");
        edge("JAMMED (1 to 60): the other way", "loom " + ONE + "l40;d0b;", "19 times turn 0 0", "jammed = 60", "turn 0 0 = 0", "jammed = NONE");
        edge("JAMMED (1 to 60): drafts, not picks", "loom " + ONE + "l40;d0f0f0b0f0b0f0b;", "19 times turn 0 1", "jammed = 59", "turn 0 1 = 0", "jammed = 60",
            "turn 0 1 = 3", "jammed = NONE");
        edge("JAMMED: where the BAND has no room", "loom " + ONE + "l40;d0f;", "24 times weave 0 0", "still jammed = 17");
        edge("JAMMED: nothing changes", "loom " + ONE + "l1;d0f0f;", "weave 0 0 = 1", "still jammed = 1", "tablet 0 4 = 41", "tablet 0 5 = 0", "count 4 = 1");
    }

    private static void fewestNumbers() {
        edge("FEWEST: COLOURS of as many figures as there are TABLETS: one", "loom " + ONE, "still fewest -1 -1 = BAD", "fewest 0 -1 = 0", "fewest 9 -1 = NONE",
            "still fewest 10 -1 = BAD", "still fewest MIN -1 = BAD", "still fewest MAX -1 = BAD");
        edge("FEWEST: COLOURS of as many figures as there are TABLETS: six", "still fewest -1 -1 = BAD", "still fewest 0 -1 = NONE", "still fewest 999999 -1 = NONE",
            "still fewest 1000000 -1 = BAD");
        edge("FEWEST: COLOURS, fewer: 0 ahead", "loom " + TWO, "still fewest 1 -1 = 1", "fewest 1 0 = 10", "fewest 99 0 = NONE", "fewest 100 0 = BAD");
        edge("FEWEST: k = -1 and below", "loom " + ONE, "still fewest 1 -2 = BAD", "still fewest 1 -1 = 1", "still fewest 1 MIN = BAD");
        edge("FEWEST: k: 0 first, the last, one more", "loom " + TWO, "fewest 21 -1 = 2", "fewest 21 0 = 0", "still fewest 21 1 = 20", "still fewest 21 2 = NONE",
            "still fewest 21 MAX = NONE");
        edge("FEWEST: BAD is ahead of NONE", "loom " + ONE, "still fewest 9 -2 = BAD", "still fewest 0 -2 = BAD", "still fewest 10 5 = BAD");
    }

    private static void fewestNone() {
        edge("FEWEST: on top now", "loom " + ONE, "still fewest 0 -1 = 0", "still fewest 0 0 = NONE", "fewest 0 1 = NONE", "weave 0 0 = 1", "fewest 1 -1 = 0",
            "fewest 1 0 = NONE", "fewest 0 -1 = 1", "fewest 0 0 = 1");
        edge("FEWEST: none: a COLOUR that is not there", "loom " + ONE, "still fewest 4 -1 = NONE", "still fewest 4 0 = NONE", "still fewest 4 9 = NONE");
        edge("FEWEST: none: TABLETS that go together", "loom " + T + T + "p01;", "fewest 11 -1 = 1", "still fewest 10 -1 = NONE", "fewest 10 0 = NONE");
        edge("FEWEST: none: one of no PACK", "loom " + T + T + "p0;", "fewest 30 -1 = 1", "fewest 1 -1 = NONE");
        edge("FEWEST: none: a DOUBLE one", "loom " + DOUBLE, "fewest 2 -1 = 1", "fewest 2 0 = 0", "fewest 1 -1 = NONE", "fewest 3 -1 = NONE", "turn 0 0 = 2", "fewest 0 -1 = 1",
            "fewest 1 -1 = NONE");
    }

    private static void fewestFirst() {
        edge("FEWEST: the lower PACK ahead", "loom " + T + "p0;p0;p0;", "fewest 1 0 = 0", "fewest 3 0 = 1");
        edge("FEWEST: FORWARD ahead of BACK", "loom " + ONE, "fewest 2 -1 = 2", "fewest 2 0 = 0", "fewest 2 1 = 0");
        edge("FEWEST: the PACK ahead of the way", "loom t0,0,0101;p0;p0;", "fewest 1 -1 = 1", "fewest 1 0 = 0");
        edge("FEWEST: the lower PACK BACK ahead of the higher FORWARD", "loom t2,0,0123;t0,0,0123;p01;p0;p0;", "fewest 30 0 = 10", "fewest 10 0 = 11", "fewest 31 0 = 0",
            "fewest 13 0 = 1");
        edge("FEWEST: a lower PACK BACK is ahead of a higher one FORWARD", "loom t0,0,0121;t0,0,0123;p0;p0;", "fewest 10 -1 = 1", "fewest 10 0 = 0");
        edge("FEWEST: by the first PICK, then the second", "loom " + T + T + "p0;p1;", "fewest 11 -1 = 2", "fewest 11 0 = 0", "fewest 11 1 = 10", "fewest 33 0 = 1",
            "fewest 33 1 = 11");
        edge("FEWEST: fewer PICKS of a higher PACK ahead of more of a lower", "loom " + TWO, "fewest 11 -1 = 1", "fewest 11 0 = 20", "fewest 33 0 = 21");
        edge("FEWEST: of several tops of the same COLOURS the nearest", "loom t0,0,0010;p0;", "fewest 1 -1 = 2", "turn 0 0 = 1", "fewest 1 -1 = 1", "fewest 1 0 = 0");
        edge("FEWEST: of several tops of the same COLOURS the first by PICKS", "loom t0,0,0111;p0;", "fewest 1 -1 = 1", "fewest 1 0 = 0", "turn 0 1 = 3", "fewest 0 0 = 0");
        edge("FEWEST: BACK where it is nearer", "loom " + ONE, "fewest 3 -1 = 1", "fewest 3 0 = 1");
        edge("FEWEST: a LAME one the long way", "loom " + LAME, "fewest 3 -1 = 3", "fewest 3 0 = 0", "fewest 3 2 = 0", "fewest 3 3 = NONE");
    }

    private static void fewestMost() {
        edge("FEWEST: two PICKS of each of six PACKS", "loom " + OWN, "still fewest 222222 -1 = 12", "fewest 222222 0 = 0", "fewest 222222 1 = 0", "fewest 222222 2 = 10",
            "fewest 222222 11 = 50", "still fewest 222222 12 = NONE");
        edge("FEWEST: three PICKS of each of six PACKS", "loom " + OWN.replace("t0", "t3"), "still fewest 333333 -1 = 18", "fewest 333333 0 = 0", "fewest 333333 2 = 0",
            "fewest 333333 3 = 10", "fewest 333333 17 = 50", "still fewest 333333 18 = NONE");
        edge("FEWEST: the last PACK BACK", "loom " + OWN, "fewest 3 -1 = 1", "fewest 3 0 = 51", "fewest 300003 0 = 1", "fewest 300003 1 = 51");
    }

    private static void can() {
        edge("CAN: one row: all threads alike", "loom t0,0,0000;p0;", "still can = 1");
        edge("CAN: none, too: the row on top now counts", "loom " + DOUBLE, "can = 2", "wipe = 13", "loom t0,0,0111;p0;", "can = 2");
        edge("CAN: different rows", "loom t0,0,0011;p0;", "can = 2", "wipe = 13", "loom t0,0,0012;p0;", "can = 3");
        edge("CAN: different rows of several", "loom t0,0,0011;t0,0,0101;p01;", "can = 4", "wipe = 24", "loom t0,0,0011;t0,0,0011;p01;", "can = 2");
        edge("CAN: all of one", "loom " + ONE, "can = 4");
        edge("CAN: all of six", "loom " + OWN, "still can = 4096");
        edge("CAN: six that go together", "loom " + T + T + T + T + T + T + "p012345;", "can = 4");
        edge("CAN: one of no PACK stays", "loom " + T + T + "p0;", "can = 4", "turn 1 0 = 1", "can = 4");
        edge("CAN: a LAME one goes apart from the others", "loom " + T + "t3,0,0123;p01;", "can = 16");
        edge("CAN: COLOURS by place, not only which", "loom t0,0,0101;t0,0,0101;p0;p1;", "can = 4");
        edge("CAN: from now on", "loom t1,0,0122;p0;", "can = 2", "wipe = 13", "loom t0,0,0123;t1,0,0100;p1;", "can = 1");
        edge("CAN: nothing changes", "loom " + OWN, "weave 0 0 = 100000", "still can = 4096");
    }

    private static void needsNumbers() {
        edge("NEEDS: COLOURS of as many figures as there are TABLETS: one", "loom " + ONE, "still needs -1 = BAD", "needs 0 = 0", "needs 9 = NONE", "still needs 10 = BAD",
            "still needs MIN = BAD", "still needs MAX = BAD");
        edge("NEEDS: COLOURS of as many figures as there are TABLETS: six", "still needs -1 = BAD", "still needs 0 = NONE", "still needs 999999 = NONE",
            "still needs 1000000 = BAD");
        edge("NEEDS: 0: they are on top now", "loom " + TWO, "still needs 0 = 0", "weave 2 0 = 11", "needs 11 = 0", "needs 0 = 4");
        edge("NEEDS: none", "loom " + TWO, "still needs 4 = NONE", "still needs 40 = NONE", "still needs 99 = NONE");
        edge("NEEDS: none: TABLETS that go together", "loom " + T + T + "p01;", "needs 22 = 1", "needs 12 = NONE");
        edge("NEEDS: none: a DOUBLE one", "loom " + DOUBLE, "needs 2 = 1", "needs 1 = NONE", "needs 3 = NONE");
    }

    private static void needsFewest() {
        edge("NEEDS: that of fewest PACKS, not of fewest PICKS", "loom " + T + T + "p01;p0;p1;", "needs 11 = 1", "needs 10 = 2", "needs 1 = 4", "needs 22 = 1");
        edge("NEEDS: one higher PACK ahead of two lower", "loom " + TWO, "needs 11 = 4", "needs 33 = 4", "needs 12 = 3");
        edge("NEEDS: one PACK whatever many PICKS", "loom " + LAME.replace("p0;", "p0;p0;"), "needs 3 = 1");
        edge("NEEDS: all six PACKS", "loom " + OWN, "needs 111111 = 63", "needs 123123 = 63", "needs 111110 = 31", "needs 11111 = 62", "needs 1 = 32", "needs 100000 = 1");
    }

    private static void needsLowest() {
        edge("NEEDS: of several the lowest as bits: of one", "loom " + T + "p0;p0;p0;p0;p0;p0;", "needs 1 = 1", "needs 3 = 1");
        edge("NEEDS: of several the lowest as bits: of two", "loom " + T + T + "p0;p1;p0;p1;", "needs 12 = 3", "needs 10 = 1", "needs 1 = 2");
        edge("NEEDS: of several the lowest as bits: {0, 3} is higher than {1, 2}", "loom " + T + T + T + "p0;p1;p02;p12;", "needs 111 = 6", "needs 112 = 12",
            "needs 212 = 6", "needs 122 = 9");
    }

    private static void nothingIsLeft() {
        edge("FEWEST, NEEDS: none: the HOLES as at first, which can not come again", "loom " + T + T + "p01;", "turn 1 0 = 1", "fewest 0 -1 = NONE", "needs 0 = NONE",
            "fewest 1 -1 = 0", "fewest 12 -1 = 1", "fewest 30 -1 = 1", "fewest 30 0 = 1", "fewest 11 -1 = NONE");
        edge("FEWEST, CAN, NEEDS: what was asked ahead leaves nothing", "loom " + T + T + "p01;", "lies = 16", "fewest 33 -1 = 1", "turn 1 0 = 1", "can = 4", "needs 33 = NONE",
            "fewest 33 -1 = NONE", "lies = 16", "fewest 0 -1 = NONE", "can = 4", "needs 0 = NONE");
        edge("FEWEST, CAN, NEEDS: what another loom could leaves nothing", "loom " + OWN, "can = 4096", "fewest 222222 -1 = 12", "wipe = 78", "loom " + T + T + "p01;", "can = 4",
            "fewest 1 -1 = NONE", "needs 1 = NONE", "fewest 22 -1 = 2", "ways = 1", "lies = 16");
    }

    private static void whateverTwist() {
        String twisted = "loom " + T + "p0;p0;l1;d0f0f;";
        edge("WHATEVER TWIST: nothing JAMS: ROUND", twisted, "weave 0 0 = 1", "still round = 2");
        edge("WHATEVER TWIST: nothing JAMS: GATHERS", twisted, "weave 0 0 = 1", "still twist 0 = 42");
        edge("WHATEVER TWIST: nothing JAMS: FEWEST", twisted, "weave 0 0 = 1", "still fewest 2 -1 = 1", "still fewest 2 0 = 0", "fewest 3 -1 = 2");
        edge("WHATEVER TWIST: nothing JAMS: CAN", twisted, "weave 0 0 = 1", "still can = 4");
        edge("WHATEVER TWIST: nothing JAMS: NEEDS", twisted, "weave 0 0 = 1", "still needs 2 = 1", "still needs 3 = 1");
        edge("WHATEVER TWIST: nothing JAMS: a DOUBLE one of L of 1", "loom " + DOUBLE + "l1;d0f;", "round = 2", "twist 0 = 42", "fewest 2 -1 = 1", "can = 2", "needs 2 = 1",
            "jammed = 1");
    }
}
