/** Edges of section 1 and of promises 1 to 11: texts, faults, what is laid, what can be looked at. */
public final class TextEdgesTest extends EdgeChecks {
    private static final String T = "t0,0,0123;";
    private static final String ONE = T + "p0;";
    private static final String SIX = T + T + T + T + T + T;

    public static void main(String[] args) {
        newObject();
        letters();
        textFull();
        items();
        numbers();
        tablets();
        colours();
        packs();
        twists();
        drafts();
        fault();
        laid();
        layStartsAnew();
        lookAtTablets();
        lookAtPacksAndDrafts();
        lookAtTopsAndRows();
        lookAtCounts();
        calls();
        end("edges of texts");
    }

    private static void newObject() {
        edge("A new object: THE TEXT is empty", "count 9 = 0", "still wipe = 0", "still fault = NONE", "still lay = NO");
        edge("A new object: nothing is WOVEN", "count 4 = 0", "still row 0 0 = NONE", "still row 0 1 = NONE", "still unweave = NO");
        edge("A new object: nothing is SEEN", "count 6 = 0", "still forget = 0", "still ways = 1", "still lies = 4096");
        edge("A new object: nothing can be UNDONE", "count 7 = 0", "still undo = NO");
        edge("A new object: nothing is KEPT", "count 8 = 0", "still back = NO");
        edge("A new object: nothing FLOATS", "count 5 = 0", "tablet 0 5 = 0", "tablet 5 5 = 0");
        edge("A new object has the LOOM that is told", "count 0 = 6", "count 1 = 4", "count 2 = 4", "count 3 = 16",
            "top 0 = 121312", "top 1 = 42", "pack 3 = 33", "draft 3 = 0", "draft 4 = NONE");
        edge("A new object: THE TEXT told at first is not THE TEXT", "text x", "count 9 = 1", "fault = 0");
    }

    private static void letters() {
        edge("A letter (32 to 126): below the least", "still write 31 = BAD", "write 32 = 1");
        edge("A letter (32 to 126): the least", "write 32 = 1", "count 9 = 1", "fault = 0");
        edge("A letter (32 to 126): the greatest", "write 126 = 1", "count 9 = 1", "fault = 0");
        edge("A letter (32 to 126): above the greatest", "still write 127 = BAD", "write 126 = 1");
        edge("A letter (32 to 126): far off", "still write 0 = BAD", "still write -1 = BAD", "still write 10 = BAD", "still write 160 = BAD",
            "still write 255 = BAD", "still write 256 = BAD", "still write MIN = BAD", "still write MAX = BAD", "still write 65601 = BAD");
        edge("A letter comes behind THE TEXT", "text t0,0,0123", "still write 31 = BAD", "write 59 = 10", "fault = NONE",
            "write 59 = 11", "fault = 10");
    }

    private static void textFull() {
        String most = SIX + "p0;l10;l10;" + "l1;".repeat(42) + "l7;";
        String unfinished = "l1;".repeat(66) + "l4";
        edge("A TEXT is letters (200 at most): 199, 200, one more", "199 times write 32", "count 9 = 199", "write 126 = 200",
            "count 9 = 200", "still write 126 = FULL", "still write 32 = FULL", "count 9 = 200");
        edge("write: BAD is ahead of FULL", "200 times write 65", "still write 31 = BAD", "still write 127 = BAD", "still write 65 = FULL");
        edge("A TEXT of 200 letters is LAID", "text " + most, "count 9 = 200", "fault = NONE", "lay = 6", "count 3 = 7");
        edge("A letter too many changes nothing", "text " + most, "still write 59 = FULL", "fault = NONE", "lay = 6");
        edge("A FAULT in the last of 200 letters", "text " + unfinished, "count 9 = 200", "fault = 198", "still write 59 = FULL",
            "fault = 198", "still lay = NO");
        edge("A FAULT at the last of 200 letters", "text " + "l1;".repeat(65) + "l10;l", "count 9 = 200", "fault = 199");
        edge("wipe: THE TEXT is empty: how long it was (200)", "200 times write 65", "wipe = 200", "count 9 = 0", "still wipe = 0",
            "fault = NONE", "write 65 = 1", "199 times write 65", "still write 65 = FULL");
        edge("wipe: how long it was (0, 1)", "still wipe = 0", "write 65 = 1", "wipe = 1", "still wipe = 0");
        edge("wipe: what is LAID stays", "loom " + ONE, "weave 0 0 = 1", "wipe = 13", "count 0 = 1", "top 0 = 1", "count 4 = 1");
    }

    private static void items() {
        so("ITEMS, none at all", "");
        so("ITEMS one behind the other", "l1;", "l1;l2;", T, T + "l3;", T + "p0;" + T + "p1;", "l1;" + ONE + "d0f;");
        notSo("ITEMS: a ; behind it", "", "l5", "t0,0,0123", "l5,", "t0,0,0123,", "l5:", "l");
        notSo("ITEMS: a ; behind it", ONE, "p0", "d0f", "p0,", "d0f,", "p", "d");
        notSo("ITEMS: parted by ,", "", "t000123;", "t0,00123;", "t00,0123;", "t0;0;0123;", "t0.0,0123;", "t0,0.0123;", "t0,,0,0123;",
            "t,0,0,0123;", "t0,0,,0123;", "t0,0,0123,;", "l,5;", "l5,;", "l5,6;");
        notSo("ITEMS, each a letter", "", "x;", "0;", ";", ",;", " ;", "T0,0,0123;", "L5;", "a5;", "s0,0,0123;", "u0,0,0123;", "k5;", "m5;", "5;");
        notSo("ITEMS, each a letter", ONE, "P0;", "D0f;", "o0;", "q0;", "c0f;", "e0f;", "0;", "0f;");
        notSo("ITEMS one behind the other, with no space", "", " l5;", "l 5;", "l5 ;", "t 0,0,0123;", "t0 ,0,0123;", "t0, 0,0123;", "t0,0,0 123;",
            "t0,0,0123 ;");
        notSo("ITEMS one behind the other, with no space", ONE, "p 0;", "p0 ;", "d 0f;", "d0 f;", "d0f ;", "d0f 0f;");
        notSo("ITEMS: what it tells, not less", "", "t;", "t0;", "t0,;", "t0,0;", "t0,0,;", "t,,;", "l;");
        notSo("ITEMS: what it tells, not more", "", "t0,0,0123,0;", "t0,0,0123,0123;", "l5,5;", "l5l5;", "t0,0,0123t0,0,0123;");
    }

    private static void numbers() {
        so("numbers: one or two figures, one", "t3,1,0123;", "t0,0,0123;", "l1;", "l9;");
        so("numbers: one or two figures, two", "t03,01,0123;", "t00,00,0123;", "t0,01,0123;", "t02,1,0123;", "l01;", "l09;", "l10;", "l40;");
        notSo("numbers: one or two figures, none", "", "l;", "t,0,0123;", "t0,,0123;");
        notSo("numbers: one or two figures, three", "", "l001;", "l010;", "l040;", "l100;", "t000,0,0123;", "t003,0,0123;", "t0,000,0123;", "t0,001,0123;");
        notSo("numbers are figures", "", "l-1;", "l+5;", "la;", "l5a;", "l/;", "l:;", "l3/;", "l3:;", "t-0,0,0123;", "t:,0,0123;", "t/,0,0123;", "t0,:,0123;",
            "t0,/,0123;", "t0,a,0123;");
        edge("numbers of two figures", "loom t03,01,0123;p0;l09;", "tablet 0 0 = 3", "tablet 0 1 = 1", "count 3 = 9");
    }

    private static void tablets() {
        so("KIND K (0 to 3)", "t0,0,0123;", "t1,0,0123;", "t2,0,0123;", "t3,0,0123;");
        notSo("KIND K (0 to 3), above", "", "t4,0,0123;", "t5,0,0123;", "t9,0,0123;", "t04,0,0123;", "t10,0,0123;", "t13,0,0123;", "t99,0,0123;");
        so("THREADED S (0, 1)", "t0,0,0123;", "t0,1,0123;");
        notSo("THREADED S (0, 1), above", "", "t0,2,0123;", "t0,9,0123;", "t0,02,0123;", "t0,10,0123;", "t0,11,0123;", "t0,99,0123;");
        so("TABLETS: 6 at most, six", SIX);
        notSo("TABLETS: 6 at most, the seventh", SIX, T);
        notSo("TABLETS: 6 at most, the seventh behind packs", T + T + T + "p0;" + T + T + T + "p5;", T);
        edge("TABLETS 0, 1, ..: six of them", "loom t0,0,1000;t1,1,2000;t2,0,3000;t3,1,4000;t0,0,5000;t1,1,6000;p5;", "count 0 = 6",
            "top 0 = 123456", "tablet 0 3 = 1", "tablet 5 3 = 6", "tablet 5 0 = 1", "still tablet 6 0 = BAD");
        edge("TABLETS 0, 1, ..: one of them", "loom t2,1,7000;p0;", "count 0 = 1", "top 0 = 7", "tablet 0 0 = 2", "still tablet 1 0 = BAD");
    }

    private static void colours() {
        so("COLOURS R (a row of four, 0 to 9 each)", "t0,0,0000;", "t0,0,9999;", "t0,0,0909;");
        notSo("COLOURS R (a row of four), other lengths", "", "t0,0,;", "t0,0,0;", "t0,0,012;", "t0,0,01234;", "t0,0,00000000;");
        notSo("COLOURS R (0 to 9 each), what is no figure", "", "t0,0,/123;", "t0,0,:123;", "t0,0,0/23;", "t0,0,0:23;", "t0,0,01/3;", "t0,0,01:3;",
            "t0,0,012/;", "t0,0,012:;", "t0,0,a123;", "t0,0,-123;");
        notSo("a row: single signs, one next to the other", "", "t0,0,0,1,2,3;", "t0,0,01,23;");
        edge("COLOURS in HOLES 0 to 3", "loom t0,0,9080;p0;", "hole 0 0 = 9", "hole 0 1 = 0", "hole 0 2 = 8", "hole 0 3 = 0");
    }

    private static void packs() {
        so("a PACK (a row of one or more)", T + "p0;", SIX + "p5;", SIX + "p012345;", SIX + "p543210;", T + T + "p10;");
        notSo("a PACK (a row of one or more), none", T, "p;");
        notSo("a PACK of TABLETS told ahead", "", "p0;");
        notSo("a PACK of TABLETS told ahead", T, "p1;", "p01;", "p10;", "p9;");
        notSo("a PACK of TABLETS told ahead", SIX, "p6;", "p0123456;", "p7;", "p9;");
        notSo("a PACK of TABLETS told ahead, not behind", T, "p1;" + T);
        notSo("a PACK of TABLETS unlike", T + T, "p00;", "p11;", "p010;", "p011;");
        notSo("a PACK of TABLETS unlike", SIX, "p0123450;", "p5012345;", "p01234554;", "p55;");
        notSo("a PACK: a row of single signs", T + T, "p0,1;", "p/;", "p:;", "p0/;", "p0:;", "p-0;", "pa;", "p0a;");
        so("PACKS: 6 at most, six", T + "p0;p0;p0;p0;p0;p0;");
        notSo("PACKS: 6 at most, the seventh", T + "p0;p0;p0;p0;p0;p0;", "p0;");
        edge("PACKS 0, 1, ..: six of them", "loom " + SIX + "p0;p1;p2;p3;p4;p5;", "count 1 = 6", "pack 0 = 1", "pack 5 = 32", "still pack 6 = BAD",
            "weave 5 0 = 1", "still weave 6 0 = BAD");
    }

    private static void twists() {
        so("a TWIST of L (1 to 40): the least, the greatest", "l1;", "l40;", "l01;", "l2;", "l39;");
        notSo("a TWIST of L (1 to 40): below", "", "l0;", "l00;");
        notSo("a TWIST of L (1 to 40): above", "", "l41;", "l42;", "l50;", "l99;");
        edge("TWIST of 20 without", "loom " + ONE, "count 3 = 20", "20 times turn 0 0", "tablet 0 4 = 60", "still turn 0 0 = NO", "turn 0 1 = 3");
        edge("TWIST of 20 without, the other way", "loom " + ONE, "20 times turn 0 1", "tablet 0 4 = 20", "still turn 0 1 = NO", "turn 0 0 = 1");
        edge("of several such the last one counts", "loom l5;" + ONE + "l9;", "count 3 = 9");
        edge("of several such the last one counts, a lower one, too", "loom l40;" + ONE + "l9;l1;", "count 3 = 1", "turn 0 0 = 1", "still turn 0 0 = NO");
        edge("TWIST of 20 without, behind another loom, too", "loom l5;" + ONE, "count 3 = 5", "wipe = 16", "loom " + ONE, "count 3 = 20");
    }

    private static void drafts() {
        so("PICKS R (a row of 1 to 8)", ONE + "d0f;", ONE + "d0b;", ONE + "d0f0b0f0b0f0b0f0b;");
        notSo("PICKS R (a row of 1 to 8), none", ONE, "d;");
        notSo("PICKS R (a row of 1 to 8), nine", ONE, "d0f0b0f0b0f0b0f0b0f;", "d0f0f0f0f0f0f0f0f0b;");
        notSo("PICKS of a PACK told ahead", T, "d0f;");
        notSo("PICKS of a PACK told ahead", ONE, "d1f;", "d0f1b;", "d9f;", "d6f;");
        notSo("PICKS of a PACK told ahead, not behind", ONE, "d1f;p0;");
        notSo("PICKS of a PACK told ahead, of six", T + "p0;p0;p0;p0;p0;p0;", "d6f;", "d7b;");
        so("PICKS of a PACK told ahead, of six", T + "p0;p0;p0;p0;p0;p0;d5f0b;");
        notSo("PICKS: the figure of a PACK, then f or b", ONE, "d0;", "df;", "d0e;", "d0g;", "d0a;", "d0c;", "d0F;", "d0B;", "d0ff;", "d00f;", "df0;", "d0f0;", "d0f0x;",
            "d0fb;", "d/f;", "d:f;", "d-0f;", "d0,f;", "d0f,0f;", "d01;");
        edge("PICKS: one", "loom " + ONE + "d0b;", "count 2 = 1", "draft 0 = 1", "draft 1 = NONE");
        edge("PICKS: eight", "loom " + T + "p0;p0;d0f0b1f1b0f1f1b0b;", "count 2 = 8", "draft 0 = 0", "draft 1 = 1", "draft 2 = 10", "draft 3 = 11",
            "draft 6 = 11", "draft 7 = 1", "draft 8 = NONE");
        edge("PICKS: none without", "loom " + ONE, "count 2 = 0", "still draft 0 = NONE", "still again = NO", "still round = NONE", "twist 0 = 40", "jammed = NONE");
        edge("PICKS: none without, behind another loom, too", "loom " + ONE + "d0f;", "count 2 = 1", "wipe = 17", "loom " + ONE, "count 2 = 0", "draft 0 = NONE");
        edge("PICKS: of several such the last one counts, a shorter one, too", "loom " + ONE + "d0f0f0f;d0b;", "count 2 = 1", "draft 0 = 1", "draft 1 = NONE");
        edge("PICKS: of several such the last one counts, a longer one, too", "loom " + ONE + "d0b;p0;d1f1b;", "count 2 = 2", "draft 0 = 10", "draft 1 = 11");
    }

    private static void fault() {
        edge("FAULT: NONE of an empty TEXT", "still fault = NONE");
        edge("FAULT: the place (from 0 on)", "text x", "still fault = 0");
        edge("FAULT: the place of the first letter of the ITEM", "text " + ONE + "p000000", "still fault = 13");
        edge("FAULT: of the first ITEM that is not so", "text l1;l0;l2;l0;x", "still fault = 3");
        edge("FAULT: of the first ITEM, as letters come", "text l4", "fault = 0", "write 49 = 3", "fault = 0", "write 59 = 4", "fault = 0", "wipe = 4",
            "text l4", "fault = 0", "write 48 = 3", "fault = 0", "write 59 = 4", "fault = NONE", "write 108 = 5", "fault = 4");
        edge("FAULT: a TEXT without PACK has none", "text " + T, "fault = NONE", "still lay = NO");
        edge("FAULT: it leaves what is LAID", "text " + ONE + "d0f;l3;", "still fault = NONE", "count 0 = 6", "count 2 = 4", "count 3 = 16", "draft 1 = 10");
    }

    private static void laid() {
        edge("LAID is a TEXT of a TABLET and a PACK at least: nothing", "still lay = NO");
        edge("LAID is a TEXT of a TABLET and a PACK at least: no TABLET", "text l5;", "fault = NONE", "still lay = NO");
        edge("LAID is a TEXT of a TABLET and a PACK at least: no PACK", "text " + SIX + "l5;", "fault = NONE", "still lay = NO");
        edge("LAID is a TEXT of a TABLET and a PACK at least: one each", "text " + ONE, "lay = 1", "count 0 = 1", "count 1 = 1");
        edge("LAID is a TEXT without FAULT: the last ITEM", "text " + ONE + "l0;", "still lay = NO");
        edge("LAID is a TEXT without FAULT: unfinished", "text " + ONE + "l", "still lay = NO", "write 51 = 15", "still lay = NO", "write 59 = 16", "lay = 1", "count 3 = 3");
        edge("NO: nothing changes in what is woven, seen, kept", "loom " + ONE + "d0f;", "weave 0 0 = 1", "see 3 = 1", "keep = 1", "weave 0 0 = 2", "flip 0 = 1",
            "text l0;", "still lay = NO", "count 4 = 2", "count 6 = 1", "count 7 = 3", "count 8 = 1", "top 0 = 2");
        edge("LAID: how many TABLETS", "loom " + ONE, "lay = 1", "wipe = 13", "loom " + SIX + "p0;", "lay = 6");
    }

    private static void layStartsAnew() {
        String two = "t0,0,0123;t0,1,0123;p0;p01;l2;d0f;";
        edge("lay: nothing WOVEN", "loom " + two, "weave 0 0 = 10", "weave 1 0 = 21", "lay = 2", "count 4 = 0", "still row 0 0 = NONE", "still unweave = NO");
        edge("lay: nothing SEEN", "loom " + two, "6 times see 99", "lay = 2", "count 6 = 0", "still forget = 0", "ways = 1", "lies = 16", "see 0 = 1");
        edge("lay: nothing UNDONE", "loom " + two, "9 times flip 0", "lay = 2", "count 7 = 0", "still undo = NO", "flip 0 = 1", "count 7 = 1", "undo = 0", "tablet 0 1 = 0");
        edge("lay: nothing KEPT", "loom " + two, "weave 0 0 = 10", "2 times keep", "lay = 2", "count 8 = 0", "still back = NO", "keep = 1", "keep = 2");
        edge("lay: THE TEXT stays", "loom " + two, "count 9 = 34", "lay = 2", "count 9 = 34", "fault = NONE", "lay = 2");
        edge("lay: HOLE 0 on top, TWIST 0, none FLOATS, S as told", "loom " + two, "weave 0 1 = 30", "weave 0 1 = 20", "weave 0 1 = 20", "flip 0 = 1", "flip 1 = 0",
            "lay = 2", "top 0 = 0", "top 1 = 2", "tablet 0 1 = 0", "tablet 0 2 = 0", "tablet 0 4 = 40", "tablet 0 5 = 0", "tablet 0 6 = 0",
            "tablet 1 1 = 1", "tablet 1 5 = 0", "tablet 1 6 = 1");
        edge("lay: fewer TABLETS, PACKS, PICKS than ahead of it", "weave 0 0 = 121222", "loom " + ONE, "count 0 = 1", "count 1 = 1", "count 2 = 0", "top 0 = 0",
            "top 1 = 0", "still tablet 1 0 = BAD", "still hole 1 0 = BAD", "still pack 1 = BAD", "still draft 0 = NONE", "still weave 1 0 = BAD",
            "still turn 1 0 = BAD", "still flip 1 = BAD", "still comb 1 = BAD", "still twist 1 = BAD", "still see 10 = BAD", "can = 4", "lies = 4");
    }

    private static void lookAtTablets() {
        edge("tablet: of a TABLET such as there is, of one", "loom " + ONE, "still tablet -1 0 = BAD", "still tablet 0 0 = 0", "still tablet 1 0 = BAD",
            "still tablet MIN 0 = BAD", "still tablet MAX 0 = BAD");
        edge("tablet: of a TABLET such as there is, of six", "still tablet -1 6 = BAD", "tablet 0 6 = 0", "tablet 5 6 = 1", "still tablet 6 6 = BAD");
        edge("tablet: what = 0 to 6", "still tablet 0 -1 = BAD", "tablet 0 0 = 0", "tablet 5 0 = 3", "tablet 0 6 = 0", "tablet 5 6 = 1", "still tablet 0 7 = BAD",
            "still tablet 5 7 = BAD", "still tablet 0 MIN = BAD", "still tablet 0 MAX = BAD");
        edge("tablet: the COLOUR of the HOLE on top", "loom t0,0,5678;t0,1,1234;p0;", "5 times weave 0 0", "tablet 0 3 = 6", "tablet 0 2 = 1", "comb 0 = 45", "weave 0 1 = 51",
            "tablet 0 3 = 5", "tablet 1 3 = 1", "weave 0 1 = 81", "tablet 0 3 = 8");
        edge("tablet: TWIST, and 40, least and greatest", "loom " + ONE + "l40;", "40 times turn 0 0", "tablet 0 4 = 80", "80 times turn 0 1", "tablet 0 4 = 0",
            "still turn 0 1 = NO");
        edge("hole: a HOLE 0 to 3", "loom t0,0,5678;p0;", "still hole 0 -1 = BAD", "hole 0 0 = 5", "hole 0 3 = 8", "still hole 0 4 = BAD", "still hole 0 MIN = BAD",
            "still hole 0 MAX = BAD");
        edge("hole: of a TABLET such as there is", "loom t0,0,5678;p0;", "still hole -1 0 = BAD", "still hole 1 0 = BAD", "still hole MIN 3 = BAD",
            "still hole MAX 3 = BAD");
        edge("hole: of the last of six", "hole 5 0 = 2", "hole 5 3 = 3", "still hole 6 0 = BAD");
    }

    private static void lookAtPacksAndDrafts() {
        edge("pack: of a PACK such as there is, of one", "loom " + ONE, "still pack -1 = BAD", "pack 0 = 1", "still pack 1 = BAD", "still pack MIN = BAD",
            "still pack MAX = BAD");
        edge("pack: TABLETS as bits, all of six", "pack 0 = 63", "pack 3 = 33", "still pack 4 = BAD");
        edge("draft: 0 first", "still draft -1 = BAD", "draft 0 = 0", "draft 3 = 0", "still draft 4 = NONE", "still draft MIN = BAD", "still draft MAX = NONE");
        edge("draft: BAD is ahead of NONE", "loom " + ONE, "still draft -1 = BAD", "still draft 0 = NONE", "still draft MAX = NONE");
        edge("draft: 10 times the PACK, and 1, if BACK", "loom " + T + "p0;p0;p0;p0;p0;p0;d0f0b5f5b;", "draft 0 = 0", "draft 1 = 1", "draft 2 = 50", "draft 3 = 51",
            "draft 4 = NONE");
    }

    private static void lookAtTopsAndRows() {
        edge("top: what = 0, 1", "still top -1 = BAD", "top 0 = 121312", "top 1 = 42", "still top 2 = BAD", "still top MIN = BAD", "still top MAX = BAD");
        edge("top: SLANTS as bits, all, none", "loom t0,1,0123;t1,1,0123;t2,1,0123;t3,1,0123;t0,1,0123;t0,1,0123;p0;p12345;", "top 1 = 63", "6 times weave 0 1",
            "top 1 = 62", "flip 0 = 0", "top 1 = 63", "flip 5 = 0", "top 1 = 31");
        edge("COLOURS told as a number: 0 ahead", "loom t0,0,0199;t0,0,0923;p0;p1;", "top 0 = 0", "weave 1 0 = 9", "top 0 = 9", "row 0 0 = 9", "weave 0 0 = 19",
            "weave 0 0 = 99", "top 0 = 99");
        edge("row: nothing WOVEN", "still row 0 0 = NONE", "still row 0 1 = NONE", "still row -1 0 = BAD", "still row 0 2 = BAD");
        edge("row: 0 first", "loom " + ONE, "weave 0 1 = 3", "weave 0 0 = 0", "still row -1 0 = BAD", "row 0 0 = 3", "row 0 1 = 1", "row 1 0 = 0", "row 1 1 = 0",
            "still row 2 0 = NONE", "still row 2 1 = NONE");
        edge("row: of all 24", "loom " + ONE + "l40;", "23 times weave 0 0", "row 22 0 = 3", "row 23 0 = NONE", "weave 0 1 = 2", "row 23 0 = 2", "row 23 1 = 1",
            "still row 24 0 = NONE", "still row 24 1 = NONE", "still row MAX 0 = NONE", "still row MIN 0 = BAD");
        edge("row: what = 0, 1", "loom " + ONE, "weave 0 1 = 3", "still row 0 -1 = BAD", "row 0 0 = 3", "row 0 1 = 1", "still row 0 2 = BAD", "still row 0 MIN = BAD",
            "still row 0 MAX = BAD");
        edge("row: BAD is ahead of NONE", "loom " + ONE, "still row 0 -1 = BAD", "still row 0 2 = BAD", "still row 24 2 = BAD", "still row MAX 2 = BAD",
            "still row -1 0 = BAD", "still row -1 1 = BAD", "still row MIN 1 = BAD");
    }

    private static void lookAtCounts() {
        edge("count: what = 0 to 9", "still count -1 = BAD", "count 0 = 6", "count 9 = 0", "still count 10 = BAD", "still count MIN = BAD", "still count MAX = BAD");
        edge("count: the least", "loom " + ONE + "l1;", "count 0 = 1", "count 1 = 1", "count 2 = 0", "count 3 = 1", "count 4 = 0", "count 5 = 0", "count 6 = 0",
            "count 7 = 0", "count 8 = 0", "count 9 = 16", "wipe = 16", "count 9 = 0");
        edge("count: the greatest", "loom " + SIX + "p0;p0;p0;p0;p0;p0;l40;d0f0f0f0f0f0f0f0f;", "count 0 = 6", "count 1 = 6", "count 2 = 8", "count 3 = 40",
            "4 times again", "count 4 = 24", "6 times see 0", "count 6 = 6", "8 times flip 0", "count 7 = 8", "2 times keep", "count 8 = 2", "count 5 = 5",
            "101 times write 32", "count 9 = 200");
        edge("count: TABLETS that FLOAT for 4 PICKS or more", "loom " + T + T + "p0;p1;", "3 times weave 0 0", "tablet 1 5 = 3", "count 5 = 0", "weave 0 0 = 0",
            "tablet 1 5 = 4", "count 5 = 1", "weave 0 0 = 10", "count 5 = 1", "weave 1 0 = 11", "count 5 = 0", "tablet 0 5 = 1");
        edge("count: TABLETS that FLOAT, all six", "loom " + SIX + "p0;l1;", "4 times weave 0 0", "count 5 = 5", "weave 0 0 = 100000", "count 5 = 6");
    }

    private static void calls() {
        edge("An object is used for at most 512 calls: the last of them", "loom " + ONE + "l40;", "243 times flip 0", "243 times turn 0 1",
            "6 times weave 0 0", "row 5 0 = 2", "tablet 0 4 = 6");
    }
}
