/** Promises 4 to 7 for the text: fault 1, the cutting into tokens, and where they stand. */
public final class TokenTest {
    public static void main(String[] args) {
        everyCode();
        faultOfByte();
        faultOfByteBeforeFaultOfToken();
        cutting();
        outsideTheTokens();
        Check.finish();
    }

    private static void everyCode() {
        for (int code = 0; code < 256; code++) {
            boolean allowed = code == 9 || code == 10 || code == 13 || code >= 32 && code <= 126;
            boolean blank = code <= 32 || code == ';';
            int fault = !allowed ? 1 : blank ? 0 : 2;
            Check.reading(String.valueOf((char) code), fault, fault == 0 ? -1 : 0);
            // Within a remark too every byte of the text counts.
            Check.reading(";" + (char) code, allowed ? 0 : 1, allowed ? -1 : 0);
            BodyText x = Check.given("a" + (char) code + "b");
            x.read();
            boolean sign = "(){}:".indexOf(code) >= 0;
            int tokens = !allowed || code == ';' ? 1 : sign ? 3 : blank ? 2 : 1;
            Check.due("size(0) with " + code + " between a and b", tokens, x.size(0));
        }
    }

    private static void faultOfByte() {
        String[] texts = {"\u0001", "a\u0001", "a \u0001", "a b\u007Fc", "a{\u00FF b", "a;b c\u0000", "; x\na b \u000B"};
        int[] tokens = {0, 1, 1, 2, 2, 1, 2};
        for (int i = 0; i < texts.length; i++) {
            BodyText x = Check.reading(texts[i], 1, tokens[i]);
            Check.sizes(texts[i], x, tokens[i], 0, 0, 0);
            Check.due("token behind the last", -1, x.token(tokens[i], false));
        }
        BodyText x = Check.reading("ab (cd\u0080ef", 1, 3);
        Check.places("ab (cd", x, 0, 2, 3, 4, 4, 6);
    }

    private static void faultOfByteBeforeFaultOfToken() {
        BodyText x = Check.reading("nonsense { } class A of B { } \u0002", 1, 9);
        Check.sizes("a fault 1 behind what is no program", x, 9, 0, 0, 0);
        x = Check.reading("class A of B { field x int static y ( ) none 0 { dup \u0002", 1, 16);
        Check.sizes("a fault 1 behind the beginning of a program", x, 16, 0, 0, 0);
        Check.due("classAt(0) with a fault 1", -1, x.classAt(0));
        Check.due("line(0) with a fault 1", -1, x.line(0));
    }

    private static void cutting() {
        Check.places("ab", read("ab"), 0, 2);
        Check.places(" ab ", read(" ab "), 1, 3);
        Check.places("a(b", read("a(b"), 0, 1, 1, 2, 2, 3);
        Check.places("(){}:", read("(){}:"), 0, 1, 1, 2, 2, 3, 3, 4, 4, 5);
        Check.places("a\tb\nc\rd", read("a\tb\nc\rd"), 0, 1, 2, 3, 4, 5, 6, 7);
        Check.places("a;b{c\nd", read("a;b{c\nd"), 0, 1, 6, 7);
        Check.places("a;b\rc\nd", read("a;b\rc\nd"), 0, 1, 6, 7);
        Check.places("a;b;c\n;\nd", read("a;b;c\n;\nd"), 0, 1, 8, 9);
        Check.places("a ;", read("a ;"), 0, 1);
        Check.places("!\"#$%&'*+,-./<=>?@[\\]^_`|~", read("!\"#$%&'*+,-./<=>?@[\\]^_`|~"), 0, 26);
        Check.places("", read(""));
        Check.places("; only a remark", read("; only a remark"));
        Check.places("x", read("x".repeat(300)), 0, 300);
    }

    private static void outsideTheTokens() {
        BodyText x = read("a b");
        for (int t : new int[] {-1, 2, 3, Integer.MIN_VALUE, Integer.MAX_VALUE}) {
            Check.due("token(" + t + ", false)", -1, x.token(t, false));
            Check.due("token(" + t + ", true)", -1, x.token(t, true));
        }
        for (int what : new int[] {-1, 4, 5, Integer.MIN_VALUE, Integer.MAX_VALUE}) {
            Check.due("size(" + what + ")", -1, x.size(what));
        }
    }

    private static BodyText read(String text) {
        BodyText x = Check.given(text);
        x.read();
        return x;
    }
}
