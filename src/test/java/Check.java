/** What every test shares: feeding texts, comparing answers, ending with the right exit code. */
final class Check {
    private static int wrong = 0;

    private Check() {
    }

    static void due(String call, long want, long got) {
        if (got != want) {
            wrong++;
            System.out.println(call + " answered " + got + ", due is " + want);
        }
    }

    static void due(String call, boolean want, boolean got) {
        due(call, want ? 1 : 0, got ? 1 : 0);
    }

    static void finish() {
        if (wrong != 0) {
            System.out.println(wrong + " answers are not as due");
            System.exit(1);
        }
    }

    /** Feeds the text, filled up to whole feeds with bytes that would be a fault, and ends it. */
    static void give(BodyText x, String text) {
        for (int i = 0; i < text.length(); i += 20) {
            x.feed(four(text, i), four(text, i + 4), four(text, i + 8), four(text, i + 12), four(text, i + 16));
        }
        due("end(" + text.length() + ")", true, x.end(text.length()));
    }

    static BodyText given(String text) {
        BodyText x = new BodyText();
        give(x, text);
        return x;
    }

    /** A new object that has read the text, with the fault and its token compared. */
    static BodyText reading(String text, int fault, int token) {
        BodyText x = given(text);
        due("read() of \"" + text + "\"", fault, x.read());
        due("faultAt() of \"" + text + "\"", token, x.faultAt());
        return x;
    }

    /** Compares size(0) to size(3). */
    static void sizes(String text, BodyText x, int... want) {
        for (int what = 0; what < want.length; what++) {
            due("size(" + what + ") of \"" + text + "\"", want[what], x.size(what));
        }
    }

    private static int four(String text, int from) {
        int bytes = 0;
        for (int i = from; i < from + 4; i++) {
            bytes = bytes << 8 | (i < text.length() ? text.charAt(i) : 0);
        }
        return bytes;
    }
}
