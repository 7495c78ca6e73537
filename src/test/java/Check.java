/** What every test shares: feeding texts, comparing answers, ending with the right exit code. */
final class Check {
    private static int wrong = 0;
    private static String sentence = "";

    private Check() {
    }

    /** Names the sentence of the document by which the answers compared from here on are due. */
    static void sentence(String where, String words) {
        sentence = where + ", \"" + words + "\": ";
    }

    static void due(String call, long want, long got) {
        if (got != want) {
            wrong++;
            System.out.println(sentence + call + " answered " + got + ", due is " + want);
        }
    }

    static void due(String call, boolean want, boolean got) {
        due(call, want ? 1 : 0, got ? 1 : 0);
    }

    static void finish() {
        if (wrong != 0) {
            System.out.println(wrong + " answers are not as due");
            System.exit(1);
        }
    }

    /** Feeds the text, filled up to whole feeds with bytes that would be a fault, and ends it. */
    static void give(BodyText x, String text) {
        for (int i = 0; i < text.length(); i += 20) {
            x.feed(four(text, i), four(text, i + 4), four(text, i + 8), four(text, i + 12), four(text, i + 16));
        }
        due("end(" + text.length() + ")", true, x.end(text.length()));
    }

    static BodyText given(String text) {
        BodyText x = new BodyText();
        give(x, text);
        return x;
    }

    /** A new object that has read the text, with the fault and its token compared. */
    static BodyText reading(String text, int fault, int token) {
        BodyText x = given(text);
        due("read() of \"" + text + "\"", fault, x.read());
        due("faultAt() of \"" + text + "\"", token, x.faultAt());
        return x;
    }

    /** Compares where the tokens begin and end, two places a token. */
    static void places(String text, BodyText x, int... want) {
        due("size(0) of \"" + text + "\"", want.length / 2, x.size(0));
        for (int i = 0; i < want.length; i++) {
            boolean end = i % 2 == 1;
            due("token(" + i / 2 + ", " + end + ") of \"" + text + "\"", want[i], x.token(i / 2, end));
        }
    }

    /** Compares a row of answers. */
    static void answers(String calls, int[] want, int... got) {
        for (int i = 0; i < want.length; i++) {
            due(calls + ", answer " + i, want[i], got[i]);
        }
    }

    /** Everything that is told of what was read, and at places before the first and behind the last. */
    static String told(BodyText x) {
        StringBuilder all = new StringBuilder().append(x.faultAt());
        for (int what = 0; what < 4; what++) {
            all.append(' ').append(x.size(what));
        }
        for (int k = -1; k <= Math.max(24, x.size(0)); k++) {
            all.append(" | ").append(x.token(k, false)).append(' ').append(x.token(k, true)).append(' ');
            all.append(x.classAt(k)).append(' ').append(x.member(k)).append(' ').append(x.memberAt(k)).append(' ');
            all.append(x.line(k)).append(' ').append(x.lineAt(k)).append(' ').append(x.instruction(k));
        }
        return all.toString();
    }

    /** Compares size(0) to size(3). */
    static void sizes(String text, BodyText x, int... want) {
        for (int what = 0; what < want.length; what++) {
            due("size(" + what + ") of \"" + text + "\"", want[what], x.size(what));
        }
    }

    private static int four(String text, int from) {
        int bytes = 0;
        for (int i = from; i < from + 4; i++) {
            bytes = bytes << 8 | (i < text.length() ? text.charAt(i) : 0);
        }
        return bytes;
    }
}
