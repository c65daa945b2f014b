import java.util.ArrayDeque;
import java.util.ArrayList;
import java.util.HashMap;
import java.util.HashSet;
import java.util.List;
import java.util.Map;
import java.util.Random;
import java.util.Set;
import java.util.TreeSet;
import java.util.regex.Matcher;
import java.util.regex.Pattern;

/** Long runs of drawn calls, right and wrong ones, compared with a slow and plain model of the document. */
public final class AgainstModelTest {
    private static final int MOST_CALLS = 512;
    // 42 at tablets, 10 at counts, 48 at rows, and 3 that a changing call can have left over.
    private static final int LAST_LOOKS = 42 + 10 + 48 + 3;
    private static int wrong = 0;

    public static void main(String[] args) {
        int seeds = args.length > 0 ? Integer.parseInt(args[0]) : 600;
        for (int seed = 0; seed < seeds && wrong < 10; seed++) {
            run(seed);
        }
        System.out.println(wrong == 0 ? "as the model: " + seeds + " runs" : "WRONG: " + wrong);
        if (wrong > 0) {
            System.exit(1);
        }
    }

    // What an object answers behind its 512th call is free: each run ends there, with looks at all that stands.
    private static void run(int seed) {
        Random random = new Random(seed);
        TurnedTablets program = new TurnedTablets();
        Model model = new Model();
        List<String> calls = new ArrayList<>();
        if (seed % 5 != 0) {
            String text = Texts.whole(random);
            for (char letter : text.toCharArray()) {
                compare(seed, calls, "write(" + (int) letter + ")", program.write(letter), model.write(letter));
            }
            compare(seed, calls, "lay()", program.lay(), model.lay());
        }
        while (calls.size() < MOST_CALLS - LAST_LOOKS && wrong < 10) {
            Call call = new Call(random, model);
            compare(seed, calls, call.toString(), call.on(program), call.on(model));
            if (call.changes()) {
                lookAtTablet(seed, calls, program, model, random.nextInt(6), random.nextInt(7));
                lookAtCount(seed, calls, program, model, random.nextInt(10));
                lookAtRow(seed, calls, program, model, model.count(4) - 1, random.nextInt(2));
            }
        }
        lookAtAll(seed, calls, program, model);
    }

    private static void lookAtAll(int seed, List<String> calls, TurnedTablets program, Model model) {
        for (int t = 0; t < 6; t++) {
            for (int what = 0; what < 7; what++) {
                lookAtTablet(seed, calls, program, model, t, what);
            }
        }
        for (int what = 0; what < 10; what++) {
            lookAtCount(seed, calls, program, model, what);
        }
        for (int k = 0; k < 24; k++) {
            lookAtRow(seed, calls, program, model, k, 0);
            lookAtRow(seed, calls, program, model, k, 1);
        }
    }

    private static void lookAtTablet(int seed, List<String> calls, TurnedTablets program, Model model, int t, int what) {
        compare(seed, calls, "tablet(" + t + ", " + what + ")", program.tablet(t, what), model.tablet(t, what));
    }

    private static void lookAtCount(int seed, List<String> calls, TurnedTablets program, Model model, int what) {
        compare(seed, calls, "count(" + what + ")", program.count(what), model.count(what));
    }

    private static void lookAtRow(int seed, List<String> calls, TurnedTablets program, Model model, int k, int what) {
        compare(seed, calls, "row(" + k + ", " + what + ")", program.row(k, what), model.row(k, what));
    }

    private static void compare(int seed, List<String> calls, String call, long got, long want) {
        calls.add(call + " -> " + want);
        if (got == want) {
            return;
        }
        wrong++;
        System.out.println("seed " + seed + ", call " + calls.size() + ": " + call + " answered " + got + ", due is " + want);
        if (wrong == 1) {
            System.out.println(calls.subList(Math.max(0, calls.size() - 200), calls.size()));
        }
    }

    /** Texts by draws. */
    private static final class Texts {
        static String whole(Random random) {
            int tablets = 1 + random.nextInt(6);
            int packs = 1 + random.nextInt(6);
            int colours = 1 + random.nextInt(5);
            StringBuilder text = new StringBuilder();
            for (int t = 0; t < tablets; t++) {
                text.append(tablet(random, colours));
            }
            for (int p = 0; p < packs; p++) {
                text.append(pack(random, tablets));
            }
            if (random.nextInt(4) > 0) {
                int limit = random.nextBoolean() ? 1 + random.nextInt(4) : 1 + random.nextInt(40);
                text.append("l").append(limit).append(";");
            }
            if (random.nextInt(6) > 0) {
                text.append(draft(random, packs));
            }
            return text.toString();
        }

        static String tablet(Random random, int colours) {
            StringBuilder text = new StringBuilder("t");
            text.append(random.nextInt(4)).append(',').append(random.nextInt(2)).append(',');
            for (int h = 0; h < 4; h++) {
                text.append(random.nextInt(colours));
            }
            return text.append(';').toString();
        }

        static String pack(Random random, int tablets) {
            StringBuilder text = new StringBuilder("p");
            int first = random.nextInt(tablets);
            int most = random.nextInt(tablets);
            for (int i = 0; i <= most; i++) {
                text.append((first + i) % tablets);
            }
            return text.append(';').toString();
        }

        static String draft(Random random, int packs) {
            StringBuilder text = new StringBuilder("d");
            int picks = 1 + random.nextInt(8);
            for (int k = 0; k < picks; k++) {
                text.append(random.nextInt(packs)).append(random.nextInt(3) > 0 ? 'f' : 'b');
            }
            return text.append(';').toString();
        }
    }

    /** One drawn call, done on the program and on the model alike. */
    private static final class Call {
        private static final String[] NAMES = {
            "write", "wipe", "fault", "lay", "tablet", "hole", "pack", "draft", "top", "row",
            "weave", "weave", "weave", "weave", "weave", "again", "unweave", "turn", "turn", "flip", "comb", "cut", "undo", "undo",
            "round", "twist", "jammed", "fewest", "can", "needs", "see", "see", "forget", "ways", "lies", "amiss",
            "slips", "bands", "keep", "back", "count"};
        final String name;
        final int a;
        final int b;
        final int c;
        final int d;

        Call(Random random, Model model) {
            String drawn = NAMES[random.nextInt(NAMES.length)];
            // Some of these would leave little standing if they came as often as others.
            if ((drawn.equals("cut") || drawn.equals("wipe") || drawn.equals("lay") || drawn.equals("back")
                    || drawn.equals("forget")) && random.nextInt(4) > 0) {
                drawn = "weave";
            }
            name = drawn;
            boolean off = random.nextInt(12) == 0;
            int[] args = arguments(random, model);
            if (off && args.length > 0) {
                int[] odd = {-1, -2, 6, 7, 2, 4, 10, 11, 61, 10000, 1000000, Integer.MIN_VALUE, Integer.MAX_VALUE};
                args[random.nextInt(args.length)] = odd[random.nextInt(odd.length)];
            }
            a = args.length > 0 ? args[0] : 0;
            b = args.length > 1 ? args[1] : 0;
            c = args.length > 2 ? args[2] : 0;
            d = args.length > 3 ? args[3] : 0;
        }

        private int[] arguments(Random random, Model model) {
            int t = random.nextInt(model.loom.tablets.size());
            int p = random.nextInt(model.loom.packs.size());
            switch (name) {
                case "write":
                    return new int[] {random.nextBoolean() ? 32 + random.nextInt(95) : "tpld0123,;fb".charAt(random.nextInt(12))};
                case "tablet":
                    return new int[] {t, random.nextInt(8)};
                case "hole":
                    return new int[] {t, random.nextInt(5)};
                case "pack":
                    return new int[] {p};
                case "draft":
                    return new int[] {random.nextInt(9)};
                case "top":
                    return new int[] {random.nextInt(2)};
                case "row":
                    return new int[] {random.nextInt(24), random.nextInt(2)};
                case "weave":
                    return new int[] {p, random.nextInt(3) == 0 ? 1 : 0};
                case "turn":
                    return new int[] {t, random.nextInt(3) == 0 ? 1 : 0};
                case "flip": case "comb": case "twist":
                    return new int[] {t};
                case "fewest":
                    return new int[] {colours(random, model, 0), random.nextInt(7) - 1};
                case "needs":
                    return new int[] {colours(random, model, 0)};
                case "see":
                    return new int[] {colours(random, model, model.seen.size() + 1)};
                case "amiss":
                    return new int[] {colours(random, model, 1)};
                case "slips":
                    return new int[] {p, random.nextInt(2), random.nextInt(11), random.nextInt(2)};
                case "bands":
                    return new int[] {random.nextInt(10000), 1 + random.nextInt(60), random.nextInt(2)};
                case "count":
                    return new int[] {random.nextInt(11)};
                default:
                    return new int[0];
            }
        }

        /** Mostly colours that picks bring: behind so many of them, or behind any number (0). */
        private static int colours(Random random, Model model, int picks) {
            int draw = random.nextInt(10);
            if (draw == 0) {
                return random.nextInt(1200000) - 10;
            }
            int[] tops = model.tops();
            if (draw == 1) {
                int t = random.nextInt(tops.length);
                tops[t] = (tops[t] + (random.nextBoolean() ? 1 : 3)) % 4;
                return model.coloursOf(tops);
            }
            int steps = picks == 0 ? random.nextInt(8) : picks;
            for (int i = 0; i < steps; i++) {
                tops = model.after(tops, random.nextInt(model.loom.packs.size()), random.nextInt(2));
            }
            return model.coloursOf(tops);
        }

        boolean changes() {
            return "wipe lay weave again unweave turn flip comb cut undo see forget keep back".contains(name);
        }

        long on(TurnedTablets x) {
            switch (name) {
                case "write": return x.write(a);
                case "wipe": return x.wipe();
                case "fault": return x.fault();
                case "lay": return x.lay();
                case "tablet": return x.tablet(a, b);
                case "hole": return x.hole(a, b);
                case "pack": return x.pack(a);
                case "draft": return x.draft(a);
                case "top": return x.top(a);
                case "row": return x.row(a, b);
                case "weave": return x.weave(a, b);
                case "again": return x.again();
                case "unweave": return x.unweave();
                case "turn": return x.turn(a, b);
                case "flip": return x.flip(a);
                case "comb": return x.comb(a);
                case "cut": return x.cut();
                case "undo": return x.undo();
                case "round": return x.round();
                case "twist": return x.twist(a);
                case "jammed": return x.jammed();
                case "fewest": return x.fewest(a, b);
                case "can": return x.can();
                case "needs": return x.needs(a);
                case "see": return x.see(a);
                case "forget": return x.forget();
                case "ways": return x.ways();
                case "lies": return x.lies();
                case "amiss": return x.amiss(a);
                case "slips": return x.slips(a, b, c, d);
                case "bands": return x.bands(a, b, c);
                case "keep": return x.keep();
                case "back": return x.back();
                default: return x.count(a);
            }
        }

        long on(Model x) {
            switch (name) {
                case "write": return x.write(a);
                case "wipe": return x.wipe();
                case "fault": return x.fault();
                case "lay": return x.lay();
                case "tablet": return x.tablet(a, b);
                case "hole": return x.hole(a, b);
                case "pack": return x.pack(a);
                case "draft": return x.draft(a);
                case "top": return x.top(a);
                case "row": return x.row(a, b);
                case "weave": return x.weave(a, b);
                case "again": return x.again();
                case "unweave": return x.unweave();
                case "turn": return x.turn(a, b);
                case "flip": return x.flip(a);
                case "comb": return x.comb(a);
                case "cut": return x.cut();
                case "undo": return x.undo();
                case "round": return x.round();
                case "twist": return x.twist(a);
                case "jammed": return x.jammed();
                case "fewest": return x.fewest(a, b);
                case "can": return x.can();
                case "needs": return x.needs(a);
                case "see": return x.see(a);
                case "forget": return x.forget();
                case "ways": return x.ways();
                case "lies": return x.lies();
                case "amiss": return x.amiss(a);
                case "slips": return x.slips(a, b, c, d);
                case "bands": return x.bands(a, b, c);
                case "keep": return x.keep();
                case "back": return x.back();
                default: return x.count(a);
            }
        }

        @Override
        public String toString() {
            return name + "(" + a + ", " + b + ", " + c + ", " + d + ")";
        }
    }

    private record Tablet(int kind, int threaded, String colours) { }

    private record Pick(int pack, int way) { }

    private record Row(int colours, int slants, List<Stand> before) { }

    /** A loom as a text tells it. */
    private static final class Told {
        final List<Tablet> tablets = new ArrayList<>();
        final List<Set<Integer>> packs = new ArrayList<>();
        List<Pick> draft = new ArrayList<>();
        int limit = 20;
        int fault = -4;

        private static final Pattern TABLET = Pattern.compile("t(\\d\\d?),(\\d\\d?),(\\d{4})");
        private static final Pattern PACK = Pattern.compile("p(\\d+)");
        private static final Pattern LIMIT = Pattern.compile("l(\\d\\d?)");
        private static final Pattern DRAFT = Pattern.compile("d((\\d[fb]){1,8})");

        Told(String text) {
            int start = 0;
            while (start < text.length()) {
                int end = text.indexOf(';', start);
                if (end < 0 || !item(text.substring(start, end))) {
                    fault = start;
                    return;
                }
                start = end + 1;
            }
        }

        private boolean item(String item) {
            Matcher m = TABLET.matcher(item);
            if (m.matches()) {
                int kind = Integer.parseInt(m.group(1));
                int threaded = Integer.parseInt(m.group(2));
                tablets.add(new Tablet(kind, threaded, m.group(3)));
                return kind <= 3 && threaded <= 1 && tablets.size() <= 6;
            }
            m = PACK.matcher(item);
            if (m.matches()) {
                Set<Integer> members = new TreeSet<>();
                for (char figure : m.group(1).toCharArray()) {
                    if (figure - '0' >= tablets.size() || !members.add(figure - '0')) {
                        return false;
                    }
                }
                packs.add(members);
                return packs.size() <= 6;
            }
            m = LIMIT.matcher(item);
            if (m.matches()) {
                limit = Integer.parseInt(m.group(1));
                return limit >= 1 && limit <= 40;
            }
            m = DRAFT.matcher(item);
            if (m.matches()) {
                draft = new ArrayList<>();
                String picks = m.group(1);
                for (int i = 0; i < picks.length(); i += 2) {
                    if (picks.charAt(i) - '0' >= packs.size()) {
                        return false;
                    }
                    draft.add(new Pick(picks.charAt(i) - '0', picks.charAt(i + 1) == 'b' ? 1 : 0));
                }
                return true;
            }
            return false;
        }
    }

    /** How a tablet stands. */
    private record Stand(int hole, int twist, int floats, int threaded, String last) {
        int slant() {
            return last.equals("back") ? 1 - threaded : threaded;
        }
    }

    /** How all stands that can be undone or kept; never changed, always made anew. */
    private record State(List<Stand> stands, List<Row> rows) { }

    private static final class Model {
        static final int BAD = -1, NO = -2, FULL = -3, NONE = -4;
        String text = "";
        Told loom;
        State state;
        List<State> undoable = new ArrayList<>();
        List<State> kept = new ArrayList<>();
        List<Integer> seen = new ArrayList<>();

        Model() {
            loomFrom(new Told("t0,0,1123;t0,1,2231;t1,0,1212;t2,1,3312;t0,0,1231;t3,1,2213;p012345;p024;p135;p05;l16;d0f1f2b0f;"));
        }

        private void loomFrom(Told told) {
            loom = told;
            List<Stand> stands = new ArrayList<>();
            for (Tablet tablet : told.tablets) {
                stands.add(new Stand(0, 0, 0, tablet.threaded(), "never"));
            }
            state = new State(stands, List.of());
            undoable.clear();
            kept.clear();
            seen.clear();
        }

        int write(int letter) {
            if (letter < 32 || letter > 126) {
                return BAD;
            }
            if (text.length() == 200) {
                return FULL;
            }
            text += (char) letter;
            return text.length();
        }

        int wipe() {
            int length = text.length();
            text = "";
            return length;
        }

        int fault() {
            return new Told(text).fault;
        }

        int lay() {
            Told told = new Told(text);
            if (told.fault != NONE || told.tablets.isEmpty() || told.packs.isEmpty()) {
                return NO;
            }
            loomFrom(told);
            return told.tablets.size();
        }

        private boolean noTablet(int t) {
            return t < 0 || t >= loom.tablets.size();
        }

        private boolean noPick(int p, int way) {
            return p < 0 || p >= loom.packs.size() || way < 0 || way > 1;
        }

        private boolean noColours(int colours) {
            return colours < 0 || String.valueOf(colours).length() > loom.tablets.size();
        }

        private int colour(int t, int h) {
            return loom.tablets.get(t).colours().charAt(h) - '0';
        }

        int tablet(int t, int what) {
            if (noTablet(t)) {
                return BAD;
            }
            Stand stand = state.stands().get(t);
            int[] answers = {loom.tablets.get(t).kind(), stand.threaded(), stand.hole(), colour(t, stand.hole()),
                stand.twist() + 40, stand.floats(), stand.slant()};
            return what < 0 || what > 6 ? BAD : answers[what];
        }

        int hole(int t, int h) {
            return noTablet(t) || h < 0 || h > 3 ? BAD : colour(t, h);
        }

        int pack(int p) {
            if (noPick(p, 0)) {
                return BAD;
            }
            int bits = 0;
            for (int t : loom.packs.get(p)) {
                bits += 1 << t;
            }
            return bits;
        }

        int draft(int k) {
            if (k < 0) {
                return BAD;
            }
            return k >= loom.draft.size() ? NONE : 10 * loom.draft.get(k).pack() + loom.draft.get(k).way();
        }

        int[] tops() {
            return state.stands().stream().mapToInt(Stand::hole).toArray();
        }

        int coloursOf(int[] tops) {
            String figures = "";
            for (int t = 0; t < tops.length; t++) {
                figures += colour(t, tops[t]);
            }
            return Integer.parseInt(figures);
        }

        private int slants(State s) {
            int bits = 0;
            for (int t = 0; t < s.stands().size(); t++) {
                bits += s.stands().get(t).slant() << t;
            }
            return bits;
        }

        int top(int what) {
            return what == 0 ? coloursOf(tops()) : what == 1 ? slants(state) : BAD;
        }

        int row(int k, int what) {
            if (k < 0 || what < 0 || what > 1) {
                return BAD;
            }
            if (k >= state.rows().size()) {
                return NONE;
            }
            return what == 0 ? state.rows().get(k).colours() : state.rows().get(k).slants();
        }

        /** By how much a tablet's hole and twist go on, if it does not jam. */
        private int go(int t, int way) {
            int[][] go = {{1, -1}, {2, -2}, {-1, 1}, {1, 0}};
            return go[loom.tablets.get(t).kind()][way];
        }

        private boolean jams(Stand stand, int go) {
            return Math.abs(stand.twist() + go) > loom.limit;
        }

        private Stand turned(Stand stand, int go) {
            if (go == 0 || jams(stand, go)) {
                return stand;
            }
            return new Stand((stand.hole() + go + 4) % 4, stand.twist() + go, stand.floats(), stand.threaded(),
                go > 0 ? "forward" : "back");
        }

        private int jamsIn(State s, Pick pick) {
            int jams = 0;
            for (int t : loom.packs.get(pick.pack())) {
                jams += jams(s.stands().get(t), go(t, pick.way())) ? 1 : 0;
            }
            return jams;
        }

        private State woven(State s, Pick pick) {
            List<Stand> stands = new ArrayList<>();
            String figures = "";
            for (int t = 0; t < s.stands().size(); t++) {
                Stand was = s.stands().get(t);
                int go = loom.packs.get(pick.pack()).contains(t) ? go(t, pick.way()) : 0;
                Stand is = turned(was, go);
                int floats = is.twist() == was.twist() ? Math.min(99, was.floats() + 1) : 0;
                stands.add(new Stand(is.hole(), is.twist(), floats, is.threaded(), is.last()));
                figures += colour(t, is.hole());
            }
            List<Row> rows = new ArrayList<>(s.rows());
            rows.add(new Row(Integer.parseInt(figures), slants(new State(stands, rows)), s.stands()));
            return new State(stands, rows);
        }

        private void change(State next) {
            undoable.add(state);
            if (undoable.size() > 8) {
                undoable.remove(0);
            }
            state = next;
        }

        int weave(int p, int way) {
            if (noPick(p, way)) {
                return BAD;
            }
            if (state.rows().size() == 24) {
                return FULL;
            }
            change(woven(state, new Pick(p, way)));
            return coloursOf(tops());
        }

        int again() {
            if (loom.draft.isEmpty()) {
                return NO;
            }
            int before = state.rows().size();
            if (before == 24) {
                return FULL;
            }
            State next = state;
            for (Pick pick : loom.draft) {
                next = next.rows().size() < 24 ? woven(next, pick) : next;
            }
            change(next);
            return state.rows().size() - before;
        }

        int unweave() {
            int rows = state.rows().size();
            if (rows == 0) {
                return NO;
            }
            change(new State(state.rows().get(rows - 1).before(), state.rows().subList(0, rows - 1)));
            return rows - 1;
        }

        private State with(int t, Stand stand) {
            List<Stand> stands = new ArrayList<>(state.stands());
            stands.set(t, stand);
            return new State(stands, state.rows());
        }

        int turn(int t, int way) {
            if (noTablet(t) || way < 0 || way > 1) {
                return BAD;
            }
            Stand stand = state.stands().get(t);
            if (jams(stand, go(t, way))) {
                return NO;
            }
            change(with(t, turned(stand, go(t, way))));
            return state.stands().get(t).hole();
        }

        int flip(int t) {
            if (noTablet(t)) {
                return BAD;
            }
            Stand s = state.stands().get(t);
            change(with(t, new Stand(s.hole(), s.twist(), s.floats(), 1 - s.threaded(), s.last())));
            return 1 - s.threaded();
        }

        int comb(int t) {
            if (noTablet(t)) {
                return BAD;
            }
            Stand s = state.stands().get(t);
            change(with(t, new Stand(s.hole(), 0, s.floats(), s.threaded(), s.last())));
            return s.twist() + 40;
        }

        int cut() {
            int rows = state.rows().size();
            change(new State(state.stands(), List.of()));
            return rows;
        }

        int undo() {
            if (undoable.isEmpty()) {
                return NO;
            }
            state = undoable.remove(undoable.size() - 1);
            return undoable.size();
        }

        int[] after(int[] tops, int p, int way) {
            int[] next = tops.clone();
            for (int t : loom.packs.get(p)) {
                next[t] = (next[t] + go(t, way) + 4) % 4;
            }
            return next;
        }

        private static String key(int[] tops) {
            return java.util.Arrays.toString(tops);
        }

        int round() {
            if (loom.draft.isEmpty()) {
                return NONE;
            }
            int[] tops = tops();
            int times = 0;
            do {
                for (Pick pick : loom.draft) {
                    tops = after(tops, pick.pack(), pick.way());
                }
                times++;
            } while (!key(tops).equals(key(tops())));
            return times;
        }

        int twist(int t) {
            if (noTablet(t)) {
                return BAD;
            }
            int sum = 40;
            for (Pick pick : loom.draft) {
                sum += loom.packs.get(pick.pack()).contains(t) ? go(t, pick.way()) : 0;
            }
            return sum;
        }

        int jammed() {
            State s = new State(state.stands(), List.of());
            for (int time = 1; time <= 60; time++) {
                for (Pick pick : loom.draft) {
                    if (jamsIn(s, pick) > 0) {
                        return time;
                    }
                    s = new State(woven(s, pick).stands(), List.of());
                }
            }
            return NONE;
        }

        /** All tops that picks of these packs bring, each with the first of its shortest rows of picks. */
        private Map<String, List<Integer>> paths(int set, Map<String, int[]> topsOf) {
            Map<String, List<Integer>> paths = new HashMap<>();
            ArrayDeque<int[]> open = new ArrayDeque<>();
            paths.put(key(tops()), new ArrayList<>());
            topsOf.put(key(tops()), tops());
            open.add(tops());
            while (!open.isEmpty()) {
                int[] tops = open.remove();
                for (int p = 0; p < loom.packs.size(); p++) {
                    for (int way = 0; way < 2 && (set >> p & 1) == 1; way++) {
                        int[] next = after(tops, p, way);
                        if (!paths.containsKey(key(next))) {
                            List<Integer> path = new ArrayList<>(paths.get(key(tops)));
                            path.add(10 * p + way);
                            paths.put(key(next), path);
                            topsOf.put(key(next), next);
                            open.add(next);
                        }
                    }
                }
            }
            return paths;
        }

        private static int compare(List<Integer> a, List<Integer> b) {
            if (a.size() != b.size()) {
                return a.size() - b.size();
            }
            for (int i = 0; i < a.size(); i++) {
                if (!a.get(i).equals(b.get(i))) {
                    return a.get(i) - b.get(i);
                }
            }
            return 0;
        }

        int fewest(int colours, int k) {
            if (noColours(colours) || k < -1) {
                return BAD;
            }
            Map<String, int[]> topsOf = new HashMap<>();
            List<Integer> best = null;
            for (Map.Entry<String, List<Integer>> e : paths(63, topsOf).entrySet()) {
                if (coloursOf(topsOf.get(e.getKey())) == colours && (best == null || compare(e.getValue(), best) < 0)) {
                    best = e.getValue();
                }
            }
            if (best == null) {
                return NONE;
            }
            return k == -1 ? best.size() : k < best.size() ? best.get(k) : NONE;
        }

        private Set<Integer> coloursBy(int set) {
            Map<String, int[]> topsOf = new HashMap<>();
            paths(set, topsOf);
            Set<Integer> colours = new HashSet<>();
            for (int[] tops : topsOf.values()) {
                colours.add(coloursOf(tops));
            }
            return colours;
        }

        int can() {
            return coloursBy(63).size();
        }

        int needs(int colours) {
            if (noColours(colours)) {
                return BAD;
            }
            if (!coloursBy(63).contains(colours)) {
                return NONE;
            }
            int best = NONE;
            for (int set = (1 << loom.packs.size()) - 1; set >= 0; set--) {
                boolean fewer = best == NONE || Integer.bitCount(set) <= Integer.bitCount(best);
                if (fewer && coloursBy(set).contains(colours)) {
                    best = set;
                }
            }
            return best;
        }

        int see(int colours) {
            if (noColours(colours)) {
                return BAD;
            }
            if (seen.size() == 6) {
                return FULL;
            }
            seen.add(colours);
            return seen.size();
        }

        int forget() {
            int were = seen.size();
            seen.clear();
            return were;
        }

        private int waysFrom(int[] tops, int i, Map<String, Integer> known) {
            if (i == seen.size()) {
                return 1;
            }
            String key = i + key(tops);
            Integer before = known.get(key);
            if (before != null) {
                return before;
            }
            int sum = 0;
            for (int p = 0; p < loom.packs.size(); p++) {
                for (int way = 0; way < 2; way++) {
                    int[] next = after(tops, p, way);
                    sum += coloursOf(next) == seen.get(i) ? waysFrom(next, i + 1, known) : 0;
                }
            }
            known.put(key, sum);
            return sum;
        }

        int ways() {
            return waysFrom(tops(), 0, new HashMap<>());
        }

        int lies() {
            int n = loom.tablets.size();
            int found = 0;
            Map<String, Integer> known = new HashMap<>();
            for (int number = 0; number < Math.round(Math.pow(4, n)); number++) {
                int[] tops = new int[n];
                for (int t = 0, rest = number; t < n; t++, rest /= 4) {
                    tops[t] = rest % 4;
                }
                found += waysFrom(tops, 0, known) > 0 ? 1 : 0;
            }
            return found;
        }

        int amiss(int colours) {
            if (noColours(colours)) {
                return BAD;
            }
            int found = 0;
            for (int t = 0; t < loom.tablets.size(); t++) {
                int[] on = tops();
                on[t] = (on[t] + 1) % 4;
                int[] off = tops();
                off[t] = (off[t] + 3) % 4;
                found += (coloursOf(on) == colours ? 1 << t : 0) + (coloursOf(off) == colours ? 64 << t : 0);
            }
            return found;
        }

        /** Every set of tablets that slip, each by its chance. */
        int slips(int p, int way, int x, int part) {
            if (noPick(p, way) || x < 0 || x > 10 || part < 0 || part > 1) {
                return BAD;
            }
            List<Integer> members = new ArrayList<>(loom.packs.get(p));
            int due = coloursOf(slipped(members, way, 0));
            long above = 0;
            long below = 1;
            for (int i = 0; i < members.size(); i++) {
                below *= 10;
            }
            for (int slip = 0; slip < 1 << members.size(); slip++) {
                long chance = 1;
                for (int i = 0; i < members.size(); i++) {
                    chance *= (slip >> i & 1) == 1 ? x : 10 - x;
                }
                above += coloursOf(slipped(members, way, slip)) == due ? chance : 0;
            }
            for (long d = below; d > 1; d--) {
                if (below % d == 0 && above % d == 0) {
                    above /= d;
                    below /= d;
                    break;
                }
            }
            return (int) (part == 0 ? above : below);
        }

        private int[] slipped(List<Integer> members, int way, int slip) {
            int[] tops = tops();
            for (int i = 0; i < members.size(); i++) {
                int t = members.get(i);
                if ((slip >> i & 1) == 0) {
                    tops[t] = turned(state.stands().get(t), go(t, way)).hole();
                }
            }
            return tops;
        }

        int bands(int z, int n, int what) {
            if (z < 0 || z > 9999 || n < 1 || n > 60 || what < 0 || what > 1) {
                return BAD;
            }
            State before = state;
            List<State> undoBefore = new ArrayList<>(undoable);
            int woven = 0;
            int jams = 0;
            for (int k = 0; k < n; k++) {
                long x = 7919L * z + 6151L * k + 1;
                int draw = java.math.BigInteger.valueOf(x).pow(2).mod(java.math.BigInteger.valueOf(65521)).intValue();
                if (draw % 8 == 7) {
                    cut();
                } else if (draw % 8 == 6) {
                    comb(draw / 8 % loom.tablets.size());
                } else {
                    Pick pick = new Pick(draw / 8 % loom.packs.size(), draw / 64 % 2);
                    int jamsDue = jamsIn(state, pick);
                    if (weave(pick.pack(), pick.way()) != FULL) {
                        woven++;
                        jams += jamsDue;
                    }
                }
            }
            state = before;
            undoable = undoBefore;
            return what == 0 ? woven : jams;
        }

        int keep() {
            if (kept.size() == 2) {
                return FULL;
            }
            kept.add(state);
            return kept.size();
        }

        int back() {
            if (kept.isEmpty()) {
                return NO;
            }
            state = kept.remove(kept.size() - 1);
            undoable.clear();
            return kept.size();
        }

        int count(int what) {
            int floating = 0;
            for (Stand stand : state.stands()) {
                floating += stand.floats() >= 4 ? 1 : 0;
            }
            int[] answers = {loom.tablets.size(), loom.packs.size(), loom.draft.size(), loom.limit, state.rows().size(),
                floating, seen.size(), undoable.size(), kept.size(), text.length()};
            return what < 0 || what > 9 ? BAD : answers[what];
        }
    }
}
