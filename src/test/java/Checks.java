import java.nio.charset.StandardCharsets;

/** What the project's tests share: the findings, and a count of the answers that are not the ones due. */
final class Checks {
    static final int BEYOND = -1000000001;
    static final int FULL = -1000000002;
    static final int KIND = -1000000003;
    static final int NONE = -1000000004;
    static final int STATE = -1000000005;
    static final int MISSING = -1000000006;
    static final int SIZE = -1000000007;

    private static int wrong = 0;

    private Checks() {
    }

    static void due(String call, long got, long want) {
        if (got != want) {
            wrong++;
            System.out.println(call + " answered " + got + ", due is " + want);
        }
    }

    /** Ends the test's run, with exit code 1 if an answer was wrong. */
    static void end() {
        System.out.println(wrong == 0 ? "all answers are as due" : wrong + " answers are not as due");
        if (wrong != 0) {
            System.exit(1);
        }
    }

    /** Feeds a text byte by byte. */
    static void feed(BackAvenue x, String text) {
        for (byte b : text.getBytes(StandardCharsets.ISO_8859_1)) {
            x.feed(b, 1);
        }
    }

    /** An avenue without trams, told as one text or several. */
    static BackAvenue quiet(String... texts) {
        BackAvenue x = new BackAvenue();
        x.trams(0);
        for (String text : texts) {
            feed(x, text);
            int items = x.avenue();
            due("avenue() of '" + text + "' is a fault: 0", items < 1 ? 1 : 0, 0);
        }
        return x;
    }
}
