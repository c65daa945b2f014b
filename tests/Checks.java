/** What the tests share: answers compared, looms laid, the end of a test. */
abstract class Checks {
    private static int wrong = 0;

    static void due(String call, long got, long want) {
        if (got != want) {
            wrong++;
            System.out.println(call + " answered " + got + ", due is " + want);
        }
    }

    static void tell(TurnedTablets x, String text) {
        for (int i = 0; i < text.length(); i++) {
            due("write " + text.charAt(i) + " of " + text, x.write(text.charAt(i)), x.count(9));
        }
    }

    static TurnedTablets loom(String text) {
        TurnedTablets x = new TurnedTablets();
        tell(x, text);
        due("lay() of " + text, x.lay(), x.count(0));
        return x;
    }

    static void end(String what) {
        System.out.println(wrong == 0 ? what + ": as due" : what + ": " + wrong + " WRONG");
        if (wrong > 0) {
            System.exit(1);
        }
    }
}
