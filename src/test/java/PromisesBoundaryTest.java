/** Promises 1 to 13: a test for each sentence that names a boundary case; what fails is printed with it. */
public final class PromisesBoundaryTest {
    private static final String BODY = "class A of B { static m ( ) none 0 { ";
    private static final int BODY_TOKENS = 12;
    private static final int[] NONE_OF_ALL = {-1, -1, -1, -1, -1, -1, -1, -1};
    private static final int[] FAR = {Integer.MIN_VALUE, -1000, -2, -1, 1000, 16000, 65536, Integer.MAX_VALUE};
    private static final String OF_FAULT_2 = "with a fault 2 those whose first token (of a class its name, of a member "
            + "its name) came before the token of the fault.";
    // Texts, and how many members they have.
    private static final String[] MEMBER_TEXTS = {"", "class A of B { }", "class A of B { field", "class A of B { field X",
        "class A of B { field x", "class A of B { field x int static", "class A of B { field x int method y",
        "class A of B { field x int } \u0001"};
    private static final int[] MEMBER_COUNTS = {0, 0, 0, 0, 1, 1, 2, 0};
    // Lines at the end of a text, and how many they are.
    private static final String[] LINES = {"", "}", "?", "a :", "dup", "wrte", "dup wrte back", "catch a b c D }", "load 0 ?",
        "dup } } \u0001"};
    private static final int[] LINE_COUNTS = {0, 0, 0, 1, 1, 1, 2, 1, 1, 0};

    public static void main(String[] args) {
        noText();
        nothingRead();
        feeding();
        ending();
        reading();
        faultTokens();
        sizes();
        places();
        classes();
        members();
        lines();
        Check.finish();
    }

    private static void feeding() {
        highestFirst();
        everyByteValue();
        fedSinceTheLastEnd();
        mostSinceEnd();
        mostInAll();
    }

    private static void ending() {
        firstBecomeTheText();
        othersAreGone();
        belowZero();
        moreThanWereFed();
    }

    private static void reading() {
        usedUp();
        faults();
    }

    private static void faultTokens() {
        tokenOfFault();
        tokensBeforeTheByte();
        noFault();
    }

    private static void sizes() {
        sizeOfTokens();
        sizesWithFaultOfByte();
        classesBeforeTheFault();
        membersBeforeTheFault();
        linesBeforeTheFault();
        anotherNumber();
    }

    private static void places() {
        placeOfToken();
        noSuchToken();
    }

    private static void classes() {
        tokenOfClassName();
        noSuchClass();
    }

    private static void members() {
        kindOfMember();
        noSuchKindOfMember();
        tokenOfMemberName();
        noSuchMember();
    }

    private static void lines() {
        kindOfLine();
        noSuchKindOfLine();
        kindNotClear();
        firstTokenOfLine();
        noSuchLine();
        numberOfInstruction();
        noInstruction();
        noSuchInstruction();
    }

    private static void noText() {
        Check.sentence("Promise 1", "No text, nothing read.");
        BodyText x = new BodyText();
        Check.due("read()", 0, x.read());
        Check.due("told behind read()", true, Check.told(x).equals(Check.told(new BodyText())));
        Check.due("end(1)", false, new BodyText().end(1));
        Check.due("the first feed", 20, new BodyText().feed(0, 0, 0, 0, 0));
        BodyText other = Check.reading("oops", 2, 0);
        Check.due("size(0) of the other", 1, other.size(0));
        Check.due("size(0) beside it", 0, new BodyText().size(0));
    }

    private static void nothingRead() {
        Check.sentence("Promise 1", "No text, nothing read.");
        BodyText x = new BodyText();
        Check.due("faultAt()", -1, x.faultAt());
        Check.sizes("a new object", x, 0, 0, 0, 0);
        for (int k : new int[] {Integer.MIN_VALUE, -1, 0, 1, 15, 16, Integer.MAX_VALUE}) {
            Check.answers("a new object at " + k, NONE_OF_ALL, everything(x, k));
        }
    }

    private static int[] everything(BodyText x, int k) {
        return new int[] {x.token(k, false), x.token(k, true), x.classAt(k), x.member(k), x.memberAt(k), x.line(k),
            x.lineAt(k), x.instruction(k)};
    }

    private static void highestFirst() {
        Check.sentence("Promise 2", "Feeds twenty bytes, the highest of a first, then b, c, d, e");
        // A sign of its own at each place in turn, among blanks.
        for (int place = 0; place < 20; place++) {
            int[] fours = {0x20202020, 0x20202020, 0x20202020, 0x20202020, 0x20202020};
            fours[place / 4] ^= (' ' ^ '(') << (24 - 8 * (place % 4));
            BodyText x = new BodyText();
            x.feed(fours[0], fours[1], fours[2], fours[3], fours[4]);
            x.end(20);
            x.read();
            Check.places("( at " + place, x, place, place + 1);
        }
        BodyText x = new BodyText();
        x.feed(0x636C6173, 0x73204120, 0x6F662042, 0x2020207B, 0x2020207D);
        x.end(20);
        Check.due("read()", 0, x.read());
        Check.places("class A of B   {   }", x, 0, 5, 6, 7, 8, 10, 11, 12, 15, 16, 19, 20);
    }

    private static void everyByteValue() {
        Check.sentence("Promise 2", "Feeds twenty bytes, the highest of a first, then b, c, d, e");
        // Bytes from 128 on make the ints negative, or would, if a sign spread over the bytes beside it.
        for (int place = 0; place < 4; place++) {
            int shift = 24 - 8 * place;
            int four = 0x28282828 & ~(255 << shift) | 255 << shift;
            BodyText x = new BodyText();
            x.feed(0x28282828, four, 0x28282828, 0x28282828, 0x28282828);
            x.end(20);
            Check.due("read() with the byte 255", 1, x.read());
            Check.due("faultAt() with the byte 255 at " + (4 + place), 4 + place, x.faultAt());
        }
        for (int all : new int[] {-1, Integer.MIN_VALUE, Integer.MAX_VALUE}) {
            BodyText x = new BodyText();
            Check.due("feed of " + all, 20, x.feed(all, all, all, all, all));
            x.end(20);
            Check.due("read() of " + all, 1, x.read());
            Check.due("faultAt() of " + all, 0, x.faultAt());
        }
    }

    private static void fedSinceTheLastEnd() {
        Check.sentence("Promise 2", "how many were fed since the last end()");
        BodyText x = new BodyText();
        for (int fed = 20; fed <= 200; fed += 20) {
            Check.due("feed", fed, x.feed(0, 0, 0, 0, 0));
        }
        x.end(201);
        Check.due("feed behind a refused end", 220, x.feed(0, 0, 0, 0, 0));
        x.read();
        Check.due("feed behind read", 240, x.feed(0, 0, 0, 0, 0));
        x.end(0);
        Check.due("feed behind end(0)", 20, x.feed(0, 0, 0, 0, 0));
        x.end(20);
        Check.due("feed behind end(20)", 20, x.feed(0, 0, 0, 0, 0));
        x.end(7);
        Check.due("feed behind end(7)", 20, x.feed(0, 0, 0, 0, 0));
    }

    // The two limits lie behind the 512th call, where the answers are free; they are kept all the same.
    private static void mostSinceEnd() {
        Check.sentence("Promise 2", "-1 if there would be more than 16000");
        BodyText x = new BodyText();
        for (int fed = 20; fed <= 16000; fed += 20) {
            Check.due("feed", fed, x.feed(0x28282828, 0x28282828, 0x28282828, 0x28282828, 0x28282829));
        }
        Check.due("feed over 16000", -1, x.feed(0, 0, 0, 0, 0));
        Check.due("feed over 16000 again", -1, x.feed(0, 0, 0, 0, 0));
        Check.due("end(16000)", true, x.end(16000));
        Check.due("feed behind end", 20, x.feed(0, 0, 0, 0, 0));
        Check.due("read()", 2, x.read());
        Check.due("size(0)", 16000, x.size(0));
        Check.answers("the last token", new int[] {15999, 16000}, x.token(15999, false), x.token(15999, true));
    }

    private static void mostInAll() {
        Check.sentence("Promise 2", "or more than 65536 in all");
        BodyText x = new BodyText();
        for (int feeds = 1; feeds <= 3276; feeds++) {
            Check.due("feed " + feeds, 20, x.feed(0, 0, 0, 0, 0));
            x.end(feeds % 21);
        }
        Check.due("feed of 65540 in all", -1, x.feed(0, 0, 0, 0, 0));
        Check.due("end(1)", false, x.end(1));
        Check.due("end(0)", true, x.end(0));
        Check.due("feed behind end(0)", -1, x.feed(0, 0, 0, 0, 0));
    }

    private static void firstBecomeTheText() {
        Check.sentence("Promise 3", "The first n of the bytes fed since become the text");
        for (int n = 0; n <= 40; n++) {
            BodyText x = new BodyText();
            x.feed(0x28282828, 0x28282828, 0x28282828, 0x28282828, 0x28282828);
            x.feed(0x28282828, 0x28282828, 0x28282828, 0x28282828, 0x28282828);
            Check.due("end(" + n + ")", true, x.end(n));
            Check.due("read() of " + n + " bytes", n == 0 ? 0 : 2, x.read());
            Check.due("size(0) of " + n + " bytes", n, x.size(0));
        }
        BodyText x = Check.given("( ( (");
        Check.give(x, ") )");
        x.read();
        Check.due("size(0) of the later text", 2, x.size(0));
        x = Check.given("( ( (");
        x.end(0);
        x.read();
        Check.due("size(0) of a later empty text", 0, x.size(0));
    }

    private static void othersAreGone() {
        Check.sentence("Promise 3", "the others are gone");
        BodyText x = new BodyText();
        x.feed(0x28282828, 0x28282828, 0x28282828, 0x28282828, 0x28282828);
        x.end(3);
        Check.due("end(1) behind end(3)", false, x.end(1));
        Check.due("end(17) behind end(3)", false, x.end(17));
        Check.due("feed", 20, x.feed(0x29202020, 0x20202020, 0x20202020, 0x20202020, 0x20202020));
        Check.due("end(21)", false, x.end(21));
        Check.due("end(20)", true, x.end(20));
        x.read();
        Check.places("the later bytes alone", x, 0, 1);
        // A word at the end of the text does not go on in the bytes that are gone.
        x.feed(0x6F6F7073, 0x6F6F7073, 0, 0, 0);
        x.end(6);
        x.read();
        Check.places("oopsoo", x, 0, 6);
    }

    private static void belowZero() {
        Check.sentence("Promise 3", "false if n is below 0");
        for (int n : new int[] {-1, -2, -20, Integer.MIN_VALUE, Integer.MIN_VALUE + 1}) {
            Check.due("end(" + n + ") with nothing fed", false, new BodyText().end(n));
            BodyText x = new BodyText();
            x.feed(0, 0, 0, 0, 0);
            Check.due("end(" + n + ")", false, x.end(n));
            Check.due("end(20) behind end(" + n + ")", true, x.end(20));
        }
        Check.due("end(0)", true, new BodyText().end(0));
    }

    private static void moreThanWereFed() {
        Check.sentence("Promise 3", "or more than were fed");
        BodyText x = new BodyText();
        Check.due("end(1) with nothing fed", false, x.end(1));
        x.feed(0, 0, 0, 0, 0);
        for (int n : new int[] {21, 22, 40, 16000, 65536, Integer.MAX_VALUE}) {
            Check.due("end(" + n + ") with 20 fed", false, x.end(n));
        }
        Check.due("end(20) with 20 fed", true, x.end(20));
        Check.due("end(20) with none fed since", false, x.end(20));
        Check.due("end(1) with none fed since", false, x.end(1));
        x.feed(0, 0, 0, 0, 0);
        Check.due("end(40) with 20 fed since, 40 in all", false, x.end(40));
        Check.due("end(21) with 20 fed since, 40 in all", false, x.end(21));
        Check.due("end(20) with 20 fed since", true, x.end(20));
    }

    private static void usedUp() {
        Check.sentence("Promise 4", "Reads the text, which is used up");
        String whole = BODY + "dup a : load 0 catch a b c D } method n ( ) none 0 { } } class C of A { field x int }";
        for (String text : new String[] {"oops", "class A of B { }", "a\u0001", BODY + "wrte } }", whole}) {
            BodyText x = Check.given(text);
            x.read();
            for (int again = 0; again < 3; again++) {
                Check.due("read() again behind \"" + text + "\"", 0, x.read());
                Check.due("told of nothing", true, Check.told(x).equals(Check.told(new BodyText())));
            }
        }
        BodyText x = Check.given("oops");
        x.feed(0x28202020, 0x20202020, 0x20202020, 0x20202020, 0x20202020);
        x.read();
        Check.due("end(20) of what was fed before read()", true, x.end(20));
        Check.due("read() of it", 2, x.read());
        Check.places("(", x, 0, 1);
    }

    private static void faults() {
        Check.sentence("Promise 4", "0, or the fault 1 or 2.");
        Check.reading("", 0, -1);
        Check.reading("class A of B { }", 0, -1);
        Check.reading("class A of B {", 2, 5);
        Check.reading("class A of B { }\u007F", 1, 6);
        // The codes are the text's, so a wrong one counts behind a fault 2 and in a remark too.
        Check.reading("oops oops\u0000", 1, 2);
        Check.reading("class A of B { } ; \u0080", 1, 6);
        BodyText x = Check.reading("oops", 2, 0);
        Check.give(x, "\u0001");
        Check.due("read() of the next text", 1, x.read());
        Check.give(x, "class A of B { }");
        Check.due("read() of the one behind it", 0, x.read());
    }

    private static void tokenOfFault() {
        Check.sentence("Promise 5", "The token of its fault");
        Check.reading("?", 2, 0);
        Check.reading("class", 2, 1);
        Check.reading("class A of B { } ?", 2, 6);
        Check.reading(BODY + "wrte back } }", 2, BODY_TOKENS + 1);
        Check.reading(BODY + "a : ".repeat(1000), 2, BODY_TOKENS + 2000);
        Check.reading(BODY + "a : ".repeat(1000) + "7 } }", 2, BODY_TOKENS + 2000);
    }

    private static void tokensBeforeTheByte() {
        Check.sentence("Promise 5", "of fault 1 the number of tokens before the byte, a word right before it being one");
        String[] texts = {"\u0001", " \u0001", "a\u0001", "a \u0001", "a\u0001b c", "a b\u0001", "a(\u0001", "a( \u0001",
            "(a\u0001", "a;b c\u0001", ";\u0001", "; a\nb\u0001", "a\u0001\u0001", "a\u0001 b\u0001"};
        int[] due = {0, 0, 1, 1, 1, 2, 2, 2, 2, 1, 0, 1, 1, 1};
        for (int i = 0; i < texts.length; i++) {
            BodyText x = Check.reading(texts[i], 1, due[i]);
            Check.due("size(0) of \"" + texts[i] + "\"", due[i], x.size(0));
        }
    }

    private static void noFault() {
        Check.sentence("Promise 5", "-1 if it had none, or nothing was read.");
        Check.due("faultAt() of a new object", -1, new BodyText().faultAt());
        BodyText x = Check.given("oops");
        Check.due("faultAt() before read()", -1, x.faultAt());
        x.read();
        Check.due("faultAt() of oops", 0, x.faultAt());
        x.read();
        Check.due("faultAt() when there was no text", -1, x.faultAt());
        Check.give(x, "\u0001");
        x.read();
        Check.due("faultAt() of the byte 1", 0, x.faultAt());
        Check.give(x, "class A of B { }");
        Check.due("faultAt() before the next read()", 0, x.faultAt());
        x.read();
        Check.due("faultAt() of a program", -1, x.faultAt());
        Check.reading("", 0, -1);
    }

    private static void sizeOfTokens() {
        Check.sentence("Promise 6", "How many tokens (0; with a fault 1 those before the byte)");
        String[] texts = {"", " ", ";a", "a", "a b", "a:", "class A of B { }", "a \u0001 b", "a\u0001", "\u0001a b c"};
        int[] due = {0, 0, 0, 1, 2, 2, 6, 1, 1, 0};
        for (int i = 0; i < texts.length; i++) {
            Check.due("size(0) of \"" + texts[i] + "\"", due[i], read(texts[i]).size(0));
        }
        // A fault 2 leaves no token out.
        Check.due("size(0) with a fault 2 at the first token", 5, read("? a b ( c").size(0));
    }

    private static void sizesWithFaultOfByte() {
        Check.sentence("Promise 6", "classes (1), members (2), lines (3) were read");
        Check.sizes("a program", read(BODY + "dup } }"), 15, 1, 1, 1);
        Check.sizes("with a fault 1 no program is read", read(BODY + "dup } }\u0001"), 15, 0, 0, 0);
        Check.sizes("nor before a fault 1", read(BODY + "dup \u0001 } }"), 13, 0, 0, 0);
    }

    private static void classesBeforeTheFault() {
        Check.sentence("Promise 6", OF_FAULT_2);
        String[] texts = {"class", "class a", "class A", "class A ?", "class A of B { } class", "class A of B { } class ?",
            "class A of B { } class C", "class A of B { } ? class C of D { }", "? class A of B { }"};
        int[] due = {0, 0, 1, 1, 1, 1, 2, 1, 0};
        for (int i = 0; i < texts.length; i++) {
            BodyText x = read(texts[i]);
            Check.due("size(1) of \"" + texts[i] + "\"", due[i], x.size(1));
            Check.due("size(2) of \"" + texts[i] + "\"", 0, x.size(2));
        }
    }

    private static void membersBeforeTheFault() {
        Check.sentence("Promise 6", OF_FAULT_2);
        for (String kind : new String[] {"field", "static", "method"}) {
            String[] texts = {"?", kind, kind + " ?", kind + " X", kind + " x", kind + " x ?", "field a int " + kind,
                "field a int " + kind + " x", "? field a int " + kind + " x"};
            int[] due = {0, 0, 0, 0, 1, 1, 1, 2, 0};
            for (int i = 0; i < texts.length; i++) {
                BodyText x = read("class A of B { " + texts[i]);
                Check.due("size(2) of " + texts[i], due[i], x.size(2));
                Check.due("size(1) of " + texts[i], 1, x.size(1));
            }
        }
    }

    private static void linesBeforeTheFault() {
        Check.sentence("Promise 6", OF_FAULT_2);
        String[] lines = {"", "?", "7 :", "A :", ":", "a", "a ?", "wrte back", "dup", "dup ?", "load", "load ?", "inc 1",
            "inc 1 ?", "catch", "catch ?", "catch a b c", "catch a b c ?", "a :", "a : ?", "a : :", "dup dup wrte dup",
            "dup ? dup dup"};
        int[] due = {0, 0, 0, 0, 0, 1, 1, 1, 1, 1, 1, 1, 1, 1, 1, 1, 1, 1, 1, 1, 1, 3, 1};
        for (int i = 0; i < lines.length; i++) {
            BodyText x = read(BODY + lines[i]);
            Check.due("size(3) of " + lines[i], due[i], x.size(3));
            Check.due("size(2) of " + lines[i], 1, x.size(2));
        }
    }

    private static void anotherNumber() {
        Check.sentence("Promise 6", "-1 for another number.");
        for (BodyText x : new BodyText[] {new BodyText(), read(BODY + "dup } }"), read("oops"), read("\u0001")}) {
            for (int what : new int[] {-1, 4, -2, 5, 256, Integer.MIN_VALUE, Integer.MAX_VALUE}) {
                Check.due("size(" + what + ")", -1, x.size(what));
            }
        }
    }

    private static void placeOfToken() {
        Check.sentence("Promise 7", "Where token t begins (end false) or ends (the place behind it) in the text that was read");
        Check.places("a", read("a"), 0, 1);
        Check.places("from the first byte to the last", read("abc de (f"), 0, 3, 4, 6, 7, 8, 8, 9);
        Check.places("blanks around", read("  abc  "), 2, 5);
        Check.places("with a fault 1", read("ab cd\u0001ef"), 0, 2, 3, 5);
        Check.places("with a fault 2 before it", read("? ab"), 0, 1, 2, 4);
        BodyText x = read("a b c");
        Check.give(x, "     d");
        Check.places("of the text that was read, not of the next", x, 0, 1, 2, 3, 4, 5);
        x.read();
        Check.places("of the next when it is read", x, 5, 6);
    }

    private static void noSuchToken() {
        Check.sentence("Promise 7", "-1 if there is none.");
        String[] texts = {"", "a", "a b", "a \u0001 b", "class A of B { }"};
        for (String text : texts) {
            BodyText x = read(text);
            int count = x.size(0);
            Check.answers("behind the last of \"" + text + "\"", new int[] {-1, -1}, x.token(count, false),
                    x.token(count, true));
            for (int t : FAR) {
                Check.answers("token at " + t, new int[] {-1, -1}, x.token(t, false), x.token(t, true));
            }
        }
        BodyText x = read("a b c d");
        Check.give(x, "a");
        x.read();
        Check.due("token(1, false) of a shorter text", -1, x.token(1, false));
        Check.due("token(1, true) of a shorter text", -1, x.token(1, true));
    }

    private static void tokenOfClassName() {
        Check.sentence("Promise 8", "The token of the name of class k");
        BodyText x = read("class A of B { } class C of D { field x int } class E of F { }");
        Check.answers("classAt", new int[] {1, 7, 16}, x.classAt(0), x.classAt(1), x.classAt(2));
        Check.due("classAt(0) with the fault right behind the name", 1, read("class A").classAt(0));
        StringBuilder many = new StringBuilder();
        for (int k = 0; k < 100; k++) {
            many.append("class A of B{}");
        }
        Check.due("classAt(99)", 6 * 99 + 1, read(many.toString()).classAt(99));
    }

    private static void noSuchClass() {
        Check.sentence("Promise 8", "-1 if there is none.");
        String[] texts = {"", "class", "class a", "class A", "class A of B { } class", "class A of B { } class C of D { }",
            "class A of B { } \u0001"};
        int[] count = {0, 0, 0, 1, 1, 2, 0};
        for (int i = 0; i < texts.length; i++) {
            Check.due("classAt behind the last of " + texts[i], -1, read(texts[i]).classAt(count[i]));
            for (int k : FAR) {
                Check.due("classAt(" + k + ")", -1, read(texts[i]).classAt(k));
            }
        }
    }

    private static void kindOfMember() {
        Check.sentence("Promise 9", "0 field, 1 static, 2 method for member k");
        BodyText x = read("class A of B { method a ( ) none 0 { } field b int static c ( ) none 0 { } }");
        Check.answers("member", new int[] {2, 0, 1}, x.member(0), x.member(1), x.member(2));
        Check.due("member(0) with the fault right behind field x", 0, read("class A of B { field x").member(0));
        Check.due("member(0) with the fault right behind static x", 1, read("class A of B { static x").member(0));
        Check.due("member(0) with the fault right behind method x", 2, read("class A of B { method x").member(0));
        Check.due("member(0), a field with the name method", 0, read("class A of B { field method int }").member(0));
    }

    private static void noSuchKindOfMember() {
        Check.sentence("Promise 9", "-1 if there is none.");
        for (int i = 0; i < MEMBER_TEXTS.length; i++) {
            BodyText x = read(MEMBER_TEXTS[i]);
            Check.due("member behind the last of " + MEMBER_TEXTS[i], -1, x.member(MEMBER_COUNTS[i]));
            for (int k : FAR) {
                Check.due("member(" + k + ")", -1, x.member(k));
            }
        }
    }

    private static void tokenOfMemberName() {
        Check.sentence("Promise 10", "The token of its name");
        BodyText x = read("class A of B { method a ( ) none 0 { } field b int } class C of A { static c ( ) none 0 { } }");
        Check.answers("memberAt", new int[] {6, 14, 23}, x.memberAt(0), x.memberAt(1), x.memberAt(2));
        Check.due("memberAt(0) with the fault right behind the name", 6, read("class A of B { field x").memberAt(0));
    }

    private static void noSuchMember() {
        Check.sentence("Promise 10", "-1 if there is none.");
        for (int i = 0; i < MEMBER_TEXTS.length; i++) {
            BodyText x = read(MEMBER_TEXTS[i]);
            Check.due("memberAt behind the last of " + MEMBER_TEXTS[i], -1, x.memberAt(MEMBER_COUNTS[i]));
            for (int k : FAR) {
                Check.due("memberAt(" + k + ")", -1, x.memberAt(k));
            }
        }
    }

    private static void kindOfLine() {
        Check.sentence("Promise 11", "0 label, 1 catch, 2 instruction for line k");
        BodyText x = read(BODY + "a : catch a b c D dup load 0 catch : load : } }");
        Check.answers("line", new int[] {0, 1, 2, 2, 0, 0}, x.line(0), x.line(1), x.line(2), x.line(3), x.line(4),
                x.line(5));
        // Known by its first word and by what stands behind it, though its fault comes later.
        Check.due("line(0), an instruction with a wrong operand", 2, read(BODY + "load x } }").line(0));
        Check.due("line(0), an instruction with a wrong second operand", 2, read(BODY + "inc 1 x } }").line(0));
        Check.due("line(0), a catch with a wrong name", 1, read(BODY + "catch 7 } }").line(0));
        Check.due("line(0), a catch with a wrong class", 1, read(BODY + "catch a b c d } }").line(0));
        Check.due("line(0), a label with a fault behind it", 0, read(BODY + "a : ?").line(0));
        Check.due("line(0), a label at the end", 0, read(BODY + "a :").line(0));
    }

    private static void noSuchKindOfLine() {
        Check.sentence("Promise 11", "-1 if there is none");
        for (int i = 0; i < LINES.length; i++) {
            BodyText x = read(BODY + LINES[i]);
            Check.due("line behind the last of " + LINES[i], -1, x.line(LINE_COUNTS[i]));
            for (int k : FAR) {
                Check.due("line(" + k + ")", -1, x.line(k));
            }
        }
    }

    private static void kindNotClear() {
        Check.sentence("Promise 11", "-1 if there is none or a fault came before its kind was clear.");
        // Words that might be labels and are nothing else, and words at the end, where a colon might still have come.
        String[] open = {"wrte", "wrte back", "wrte }", "wrte ?", "wrte 7", "wrte (", "class }", "int dup", "a", "dup",
            "load ;:", "goto", "catch", "catch ", "write"};
        for (String lines : open) {
            BodyText x = Check.reading(BODY + lines, 2, BODY_TOKENS + 1);
            Check.due("size(3) of " + lines, 1, x.size(3));
            Check.due("line(0) of " + lines, -1, x.line(0));
            Check.due("lineAt(0) of " + lines, BODY_TOKENS, x.lineAt(0));
            Check.due("instruction(0) of " + lines, -1, x.instruction(0));
        }
        BodyText x = read(BODY + "dup a : wrte back } }");
        Check.answers("line", new int[] {2, 0, -1, -1}, x.line(0), x.line(1), x.line(2), x.line(3));
    }

    private static void firstTokenOfLine() {
        Check.sentence("Promise 12", "The first token of line k");
        BodyText x = read(BODY + "a : catch a b c D dup inc 0 1 wrte back } }");
        int first = BODY_TOKENS;
        Check.answers("lineAt", new int[] {first, first + 2, first + 7, first + 8, first + 11, -1}, x.lineAt(0), x.lineAt(1),
                x.lineAt(2), x.lineAt(3), x.lineAt(4), x.lineAt(5));
        Check.due("lineAt(0) of the last token", first, read(BODY + "dup").lineAt(0));
    }

    private static void noSuchLine() {
        Check.sentence("Promise 12", "-1 if there is none.");
        for (int i = 0; i < LINES.length; i++) {
            BodyText x = read(BODY + LINES[i]);
            Check.due("lineAt behind the last of " + LINES[i], -1, x.lineAt(LINE_COUNTS[i]));
            for (int k : FAR) {
                Check.due("lineAt(" + k + ")", -1, x.lineAt(k));
            }
        }
    }

    private static void numberOfInstruction() {
        Check.sentence("Promise 13", "The number of the instruction of line k");
        BodyText x = read(BODY + "write a : push 0 read inc 0 x");
        Check.answers("instruction", new int[] {45, -1, 0, 44, 4}, x.instruction(0), x.instruction(1), x.instruction(2),
                x.instruction(3), x.instruction(4));
    }

    private static void noInstruction() {
        Check.sentence("Promise 13", "-1 for others");
        BodyText x = read(BODY + "a : push : catch a b c D catch : wrte } }");
        Check.answers("instruction", new int[] {-1, -1, -1, -1, -1}, x.instruction(0), x.instruction(1), x.instruction(2),
                x.instruction(3), x.instruction(4));
        Check.due("size(3)", 5, x.size(3));
    }

    private static void noSuchInstruction() {
        Check.sentence("Promise 13", "or if there is none.");
        for (int i = 0; i < LINES.length; i++) {
            BodyText x = read(BODY + LINES[i]);
            Check.due("instruction behind the last of " + LINES[i], -1, x.instruction(LINE_COUNTS[i]));
            for (int k : FAR) {
                Check.due("instruction(" + k + ")", -1, x.instruction(k));
            }
        }
    }

    private static BodyText read(String text) {
        BodyText x = Check.given(text);
        x.read();
        return x;
    }
}
