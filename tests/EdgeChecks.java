import java.util.ArrayList;
import java.util.List;

/**
 * Edges, each told as a sentence of the document and the lines of a run on a new object:
 *   text t0,0,0123;     these letters are written
 *   loom t0,0,0123;p0;  these letters are written, and laid
 *   weave 0 1 = 3       a call and what it answers (a number, BAD, NO, FULL or NONE)
 *   23 times weave 0 0  a call so often, whatever it answers (= 3 behind it: each answers 3)
 *   still weave 9 0 = BAD  a call by which nothing changes
 */
abstract class EdgeChecks extends Checks {
    static void edge(String sentence, String... lines) {
        Run run = new Run();
        for (String line : lines) {
            tellLine(sentence, run, line);
        }
        due(sentence + ": calls behind the 512th", Math.max(0, run.calls() - Run.MOST_CALLS), 0);
    }

    private static void tellLine(String sentence, Run run, String line) {
        if (line.startsWith("text ") || line.startsWith("loom ")) {
            String text = line.substring(5);
            run.write(text);
            if (line.startsWith("loom ")) {
                due(sentence + ": lay of " + text, run.ask("lay"), text.chars().filter(c -> c == 't').count());
            }
        } else if (line.startsWith("still ")) {
            still(sentence, run, line.substring(6));
        } else if (line.contains(" times ")) {
            String call = line.substring(line.indexOf(" times ") + 7);
            for (int i = Integer.parseInt(line.substring(0, line.indexOf(' '))); i > 0; i--) {
                answers(sentence, run, call);
            }
        } else {
            answers(sentence, run, line);
        }
    }

    private static void answers(String sentence, Run run, String line) {
        String[] sides = line.split(" = ");
        int got = run.ask(sides[0]);
        if (sides.length > 1) {
            due(sentence + ": call " + run.calls() + ", " + sides[0], got, Run.number(sides[1]));
        }
    }

    /** Two new objects go the same way, one of them with this call more: they may not differ in anything. */
    private static void still(String sentence, Run run, String line) {
        String call = line.split(" = ")[0];
        for (boolean unweaving : new boolean[] {false, true}) {
            Run without = run.again();
            Run with = run.again();
            answers(sentence, with, line);
            List<String> due = without.looks(unweaving);
            List<String> got = with.looks(unweaving);
            for (int i = 0; i < Math.max(due.size(), got.size()); i++) {
                String one = i < due.size() ? due.get(i) : "nothing";
                String other = i < got.size() ? got.get(i) : "nothing";
                if (!one.equals(other)) {
                    due(sentence + ": " + call + " changes " + one + " to " + other, 1, 0);
                    break;
                }
            }
            due(sentence + ": looks behind the 512th call", Math.max(0, with.calls() - Run.MOST_CALLS), 0);
        }
        answers(sentence, run, line);
    }

    /** Texts that are so. */
    static void so(String sentence, String... texts) {
        for (String text : texts) {
            edge(sentence + ", " + text, "text " + text, "fault = NONE");
        }
    }

    /** Items that are not so, alone, behind others, ahead of others: the place of the first letter of the first one. */
    static void notSo(String sentence, String ahead, String... items) {
        for (String item : items) {
            String told = sentence + ", " + item;
            int place = ahead.length();
            edge(told, "text " + ahead + item, "fault = " + place, "still lay = NO");
            edge(told, "text l7;" + ahead + item, "fault = " + (place + 3));
            edge(told, "text " + ahead + item + "l1;", "fault = " + place);
            edge(told, "text " + ahead + item + "x;", "fault = " + place);
            edge(told, "text " + ahead + "l2;" + item + item, "fault = " + (place + 3));
        }
    }

    /** One object, the calls that were done on it, and their count. */
    private static final class Run {
        static final int MOST_CALLS = 512;
        private final TurnedTablets x = new TurnedTablets();
        private final List<String> done = new ArrayList<>();

        int calls() {
            return done.size();
        }

        Run again() {
            Run twin = new Run();
            for (String call : done) {
                twin.ask(call);
            }
            return twin;
        }

        void write(String text) {
            int before = done.isEmpty() ? 0 : ask("count 9");
            for (int i = 0; i < text.length(); i++) {
                due("write " + text.charAt(i) + " of " + text, ask("write " + (int) text.charAt(i)), before + i + 1);
            }
        }

        static int number(String word) {
            switch (word) {
                case "BAD": return -1;
                case "NO": return -2;
                case "FULL": return -3;
                case "NONE": return -4;
                case "MIN": return Integer.MIN_VALUE;
                case "MAX": return Integer.MAX_VALUE;
                default: return Integer.parseInt(word);
            }
        }

        int ask(String call) {
            done.add(call);
            String[] words = call.split(" ");
            int[] n = new int[4];
            for (int i = 1; i < words.length; i++) {
                n[i - 1] = number(words[i]);
            }
            return answer(words[0], n[0], n[1], n[2], n[3]);
        }

        private int answer(String name, int a, int b, int c, int d) {
            switch (name) {
                case "write": return x.write(a);
                case "wipe": return x.wipe();
                case "fault": return x.fault();
                case "lay": return x.lay();
                case "tablet": return x.tablet(a, b);
                case "hole": return x.hole(a, b);
                case "pack": return x.pack(a);
                case "draft": return x.draft(a);
                case "top": return x.top(a);
                case "row": return x.row(a, b);
                case "weave": return x.weave(a, b);
                case "again": return x.again();
                case "unweave": return x.unweave();
                case "turn": return x.turn(a, b);
                case "flip": return x.flip(a);
                case "comb": return x.comb(a);
                case "cut": return x.cut();
                case "undo": return x.undo();
                default: return answerMore(name, a, b, c, d);
            }
        }

        private int answerMore(String name, int a, int b, int c, int d) {
            switch (name) {
                case "round": return x.round();
                case "twist": return x.twist(a);
                case "jammed": return x.jammed();
                case "fewest": return x.fewest(a, b);
                case "can": return x.can();
                case "needs": return x.needs(a);
                case "see": return x.see(a);
                case "forget": return x.forget();
                case "ways": return x.ways();
                case "lies": return x.lies();
                case "amiss": return x.amiss(a);
                case "slips": return x.slips(a, b, c, d);
                case "bands": return x.bands(a, b, c);
                case "keep": return x.keep();
                case "back": return x.back();
                case "count": return x.count(a);
                default: throw new IllegalArgumentException(name);
            }
        }

        /** All that can be looked at, and what lies beneath: what is unwoven or undone, kept, and told in the text. */
        List<String> looks(boolean unweaving) {
            List<String> told = new ArrayList<>();
            look(told, 10, "count ");
            int tablets = ask("count 0");
            for (int t = 0; t < tablets; t++) {
                look(told, 7, "tablet " + t + " ");
            }
            lookAtBand(told);
            look(told, "fault", "ways", "lies", "draft 0");
            String under = unweaving ? "unweave" : "undo";
            while (look(told, under) >= 0) {
                look(told, "top 0", "top 1");
            }
            while (look(told, "back") >= 0) {
                look(told, "top 0", "count 4");
                lookAtBand(told);
            }
            look(told, "lay", "count 0", "count 1", "count 2", "count 3", "top 0");
            return told;
        }

        private void lookAtBand(List<String> told) {
            int rows = ask("count 4");
            for (int k = 0; k <= rows; k++) {
                look(told, "row " + k + " 0", "row " + k + " 1");
            }
        }

        private void look(List<String> told, int upTo, String call) {
            for (int what = 0; what < upTo; what++) {
                look(told, call + what);
            }
        }

        private int look(List<String> told, String... calls) {
            int answer = 0;
            for (String call : calls) {
                answer = ask(call);
                told.add(call + " -> " + answer);
            }
            return answer;
        }
    }
}
