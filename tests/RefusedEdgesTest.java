/** Each call that is refused, in looms where much stands, where nothing does and where all is full: nothing changes by it. */
public final class RefusedEdgesTest extends EdgeChecks {
    private static final String LOOM = "loom t0,0,0123;t3,1,4567;p01;p0;l2;d0f1b;";
    private static final String[] MUCH = {LOOM, "weave 0 0 = 15", "weave 1 0 = 25", "flip 0 = 1", "turn 1 0 = 2", "see 26 = 1", "keep = 1", "weave 1 1 = 16", "keep = 2",
        "see 99 = 2", "cut = 3", "undo = 5", "comb 0 = 41", "text l0;"};
    private static final String[] NOTHING = {"loom t0,0,0123;t3,1,4567;p01;p0;", "wipe = 27"};
    private static final String[] FULL = {"loom t0,0,0123;t3,1,4567;p01;p0;l2;d0f1b;", "24 times weave 0 0", "6 times see 36", "2 times keep", "164 times write 32"};

    public static void main(String[] args) {
        badNumbers();
        badQuestions();
        noOrNone();
        full();
        questions();
        end("edges of what is refused");
    }

    private static void inEach(String sentence, String... calls) {
        edge(sentence + " (much stands)", join(MUCH, calls));
        edge(sentence + " (nothing stands)", join(NOTHING, calls));
        for (String call : calls) {
            edge(sentence + " (all is full)", join(FULL, call));
        }
    }

    private static String[] join(String[] ahead, String... calls) {
        String[] lines = new String[ahead.length + calls.length];
        System.arraycopy(ahead, 0, lines, 0, ahead.length);
        for (int i = 0; i < calls.length; i++) {
            lines[ahead.length + i] = "still " + calls[i];
        }
        return lines;
    }

    private static void badNumbers() {
        inEach("BAD: a letter", "write 31 = BAD", "write 127 = BAD", "write -1 = BAD", "write 0 = BAD");
        inEach("BAD: a TABLET", "tablet -1 0 = BAD", "tablet 2 0 = BAD", "hole -1 0 = BAD", "hole 2 0 = BAD", "turn -1 0 = BAD", "turn 2 0 = BAD", "flip -1 = BAD",
            "flip 2 = BAD", "comb -1 = BAD", "comb 2 = BAD", "twist -1 = BAD", "twist 2 = BAD", "tablet 6 0 = BAD", "turn 6 1 = BAD", "flip 6 = BAD", "comb 6 = BAD");
        inEach("BAD: a PACK", "pack -1 = BAD", "pack 2 = BAD", "weave -1 0 = BAD", "weave 2 0 = BAD", "slips -1 0 0 0 = BAD", "slips 2 0 0 0 = BAD", "weave 6 1 = BAD",
            "pack 6 = BAD");
        inEach("BAD: a way", "weave 0 -1 = BAD", "weave 0 2 = BAD", "turn 0 -1 = BAD", "turn 0 2 = BAD", "turn 1 2 = BAD", "slips 0 -1 0 0 = BAD", "slips 0 2 0 0 = BAD");
        inEach("BAD: what", "tablet 0 -1 = BAD", "tablet 0 7 = BAD", "top -1 = BAD", "top 2 = BAD", "row 0 -1 = BAD", "row 0 2 = BAD", "row 24 2 = BAD", "count -1 = BAD",
            "count 10 = BAD", "hole 0 -1 = BAD", "hole 0 4 = BAD");
        inEach("BAD: k", "draft -1 = BAD", "row -1 0 = BAD", "row -1 1 = BAD", "fewest 4 -2 = BAD", "fewest 99 -2 = BAD");
    }

    private static void badQuestions() {
        inEach("BAD: COLOURS", "fewest -1 -1 = BAD", "fewest 100 -1 = BAD", "fewest 100 0 = BAD", "needs -1 = BAD", "needs 100 = BAD", "see -1 = BAD", "see 100 = BAD",
            "amiss -1 = BAD", "amiss 100 = BAD");
        inEach("BAD: x, part", "slips 0 0 -1 0 = BAD", "slips 0 0 11 0 = BAD", "slips 0 0 0 -1 = BAD", "slips 0 0 0 2 = BAD");
        inEach("BAD: z, n, what", "bands -1 1 0 = BAD", "bands 10000 1 0 = BAD", "bands 0 0 0 = BAD", "bands 0 61 0 = BAD", "bands 0 1 -1 = BAD", "bands 0 1 2 = BAD");
    }

    private static void noOrNone() {
        edge("NO: where nothing stands", join(NOTHING, "lay = NO", "again = NO", "unweave = NO", "undo = NO", "back = NO"));
        edge("NONE: where nothing stands", join(NOTHING, "fault = NONE", "draft 0 = NONE", "row 0 0 = NONE", "row 0 1 = NONE", "round = NONE", "jammed = NONE",
            "fewest 99 -1 = NONE", "fewest 4 0 = NONE", "needs 99 = NONE"));
        edge("none: where nothing stands", join(NOTHING, "wipe = 0", "forget = 0", "ways = 1", "lies = 16", "twist 0 = 40", "fewest 4 -1 = 0", "needs 4 = 0"));
        edge("NO: where much stands", join(MUCH, "lay = NO", "turn 1 0 = NO"));
        edge("NONE: where much stands", join(MUCH, "draft 2 = NONE", "row 3 0 = NONE", "row 3 1 = NONE", "fewest 99 -1 = NONE", "needs 99 = NONE", "fewest 26 9 = NONE"));
        edge("NO: where all is full", join(FULL, "lay = NO"));
        edge("NO: where all is full: it JAMS", join(FULL, "turn 0 0 = NO", "turn 1 0 = NO"));
        edge("NONE: where all is full", join(FULL, "draft 2 = NONE", "row 24 0 = NONE", "row 24 1 = NONE", "fewest 99 -1 = NONE", "needs 99 = NONE"));
    }

    private static void full() {
        edge("FULL: write", join(FULL, "write 32 = FULL", "write 126 = FULL"));
        edge("FULL: weave", join(FULL, "weave 0 0 = FULL", "weave 1 1 = FULL"));
        edge("FULL: again", join(FULL, "again = FULL"));
        edge("FULL: see", join(FULL, "see 0 = FULL", "see 99 = FULL"));
        edge("FULL: keep", join(FULL, "keep = FULL"));
    }

    private static void questions() {
        String[] calls = {"fault", "tablet 0 2", "hole 1 3", "pack 0", "draft 0", "top 0", "top 1", "row 0 0", "round", "twist 0", "jammed", "fewest 36 -1", "fewest 36 0", "can",
            "needs 36", "ways", "lies", "amiss 36", "slips 0 0 3 0", "slips 0 1 3 1", "bands 5 60 0", "bands 5 60 1", "count 4"};
        inEach("what is asked changes nothing", calls);
    }
}
