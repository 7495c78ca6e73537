/** Promises 1, 2 and 3: a new object, feed and end; and that refused calls change nothing. */
public final class FeedEndTest {
    private static final String TINY = "class A of B { }    ";

    public static void main(String[] args) {
        newObject();
        orderOfBytes();
        countsSinceEnd();
        refusedEnds();
        textIsReplacedAndUsedUp();
        bytesFedBehindEndWait();
        nothingHoldsBehindZero();
        mostOfOneText();
        mostInAll();
        Check.finish();
    }

    private static void newObject() {
        BodyText x = new BodyText();
        Check.due("new: faultAt()", -1, x.faultAt());
        Check.sizes("new", x, 0, 0, 0, 0);
        nothingRead("new", x);
        Check.due("new: end(1)", false, x.end(1));
        Check.due("new: end(0)", true, x.end(0));
        Check.due("new: read()", 0, x.read());
        Check.due("new: faultAt() behind read()", -1, x.faultAt());
    }

    private static void nothingRead(String when, BodyText x) {
        Check.due(when + ": token(0, false)", -1, x.token(0, false));
        Check.due(when + ": token(0, true)", -1, x.token(0, true));
        Check.due(when + ": classAt(0)", -1, x.classAt(0));
        Check.due(when + ": member(0)", -1, x.member(0));
        Check.due(when + ": memberAt(0)", -1, x.memberAt(0));
        Check.due(when + ": line(0)", -1, x.line(0));
        Check.due(when + ": lineAt(0)", -1, x.lineAt(0));
        Check.due(when + ": instruction(0)", -1, x.instruction(0));
    }

    private static void orderOfBytes() {
        // Each place of the twenty in turn holds the only token.
        for (int place = 0; place < 20; place++) {
            int[] fours = new int[5];
            for (int i = 0; i < 20; i++) {
                fours[i / 4] = fours[i / 4] << 8 | (i == place ? '{' : ' ');
            }
            BodyText x = new BodyText();
            Check.due("feed", 20, x.feed(fours[0], fours[1], fours[2], fours[3], fours[4]));
            Check.due("end(20)", true, x.end(20));
            Check.due("read()", 2, x.read());
            Check.due("token(0, false) with { at " + place, place, x.token(0, false));
            Check.due("token(0, true) with { at " + place, place + 1, x.token(0, true));
        }
        BodyText high = new BodyText();
        high.feed(-1, 0, 0, 0, 0);
        high.end(20);
        Check.due("read() of the byte 255", 1, high.read());
    }

    private static void countsSinceEnd() {
        BodyText x = new BodyText();
        Check.due("first feed", 20, x.feed(0, 0, 0, 0, 0));
        Check.due("second feed", 40, x.feed(0, 0, 0, 0, 0));
        Check.due("end(41)", false, x.end(41));
        Check.due("feed behind a refused end", 60, x.feed(0, 0, 0, 0, 0));
        Check.due("end(7)", true, x.end(7));
        Check.due("feed behind end", 20, x.feed(0, 0, 0, 0, 0));
        x.read();
        Check.due("feed behind read", 40, x.feed(0, 0, 0, 0, 0));
    }

    private static void refusedEnds() {
        BodyText x = Check.given(TINY);
        Check.due("end(1) with nothing fed since", false, x.end(1));
        Check.due("end(-1)", false, x.end(-1));
        Check.due("end(least)", false, x.end(Integer.MIN_VALUE));
        Check.due("end(most)", false, x.end(Integer.MAX_VALUE));
        Check.due("read() behind refused ends", 0, x.read());
        Check.sizes("read behind refused ends", x, 6, 1, 0, 0);
    }

    private static void textIsReplacedAndUsedUp() {
        BodyText x = Check.given(TINY);
        Check.give(x, "oops");
        Check.due("read() of the later text", 2, x.read());
        Check.sizes("oops", x, 1, 0, 0, 0);
        Check.give(x, TINY);
        Check.sizes("oops, told till the next read", x, 1, 0, 0, 0);
        Check.due("faultAt() before the next read", 0, x.faultAt());
        Check.due("read()", 0, x.read());
        Check.due("faultAt() of a program read behind a fault", -1, x.faultAt());
        Check.sizes(TINY, x, 6, 1, 0, 0);
        Check.due("read() of nothing", 0, x.read());
        Check.sizes("nothing", x, 0, 0, 0, 0);
        nothingRead("read of nothing", x);
        Check.give(x, TINY);
        Check.due("end(0) takes the text away", true, x.end(0));
        Check.due("read() behind end(0)", 0, x.read());
        Check.sizes("behind end(0)", x, 0, 0, 0, 0);
    }

    private static void bytesFedBehindEndWait() {
        BodyText x = Check.given("oops");
        Check.due("feed behind end", 20, x.feed(0x636C6173, 0x73204120, 0x6F662042, 0x207B207D, 0x20202020));
        Check.due("read() of the ended text", 2, x.read());
        Check.due("end(16) of what was fed before read", true, x.end(16));
        Check.due("read() of it", 0, x.read());
        Check.sizes("fed before read", x, 6, 1, 0, 0);
    }

    private static void nothingHoldsBehindZero() {
        BodyText x = new BodyText();
        x.feed(0x4F4F4F4F, 0, 0, 0, 0);
        Check.due("end(2)", true, x.end(2));
        Check.due("read() of OO", 2, x.read());
        Check.due("token(0, true) ends with the text", 2, x.token(0, true));
    }

    // The two limits lie behind the 512th call, where the document leaves the answers free; they are kept all the same.
    private static void mostOfOneText() {
        BodyText x = new BodyText();
        for (int fed = 20; fed <= 16000; fed += 20) {
            Check.due("feed", fed, x.feed(0x28282828, 0x28282828, 0x28282828, 0x28282828, 0x28282828));
        }
        Check.due("feed over 16000", -1, x.feed(0, 0, 0, 0, 0));
        Check.due("end(16001)", false, x.end(16001));
        Check.due("end(16000)", true, x.end(16000));
        Check.due("read() of 16000", 2, x.read());
        Check.due("size(0) of 16000", 16000, x.size(0));
        Check.due("token(15999, true)", 16000, x.token(15999, true));
        Check.due("token(16000, true)", -1, x.token(16000, true));
        Check.due("feed behind a full text", 20, x.feed(0, 0, 0, 0, 0));
    }

    private static void mostInAll() {
        BodyText x = new BodyText();
        for (int i = 0; i < 3276; i++) {
            Check.due("feed", 20, x.feed(0, 0, 0, 0, 0));
            Check.due("end(0)", true, x.end(0));
        }
        Check.due("feed over 65536 in all", -1, x.feed(0, 0, 0, 0, 0));
        Check.due("end(1) behind the refused feed", false, x.end(1));
    }
}
