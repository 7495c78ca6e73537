/** "What it is" and "Terms": a test for each sentence that names a boundary case; what fails is printed with it. */
public final class TermsBoundaryTest {
    private static final String BODY = "class A of B { static m ( ) none 0 { ";
    private static final int BODY_TOKENS = 12;
    private static final String NAME_24 = "abcdefghijklmnopqrstuvwx";
    private static final String CLASS_24 = "ABCDEFGHIJKLMNOPQRSTUVWX";
    // A word of every sort that there is, and a sign of every sort but the colon.
    private static final String SORTS = "7 -7 a A int int[] A[] A.b none class ? ( ) { }";
    private static final String ALONE =
            "null dup pop swap add sub mul div rem and or xor shl shr neg length aload astore throw give back read write";
    private static final String IN_ORDER = "push null load store inc dup pop swap add sub mul div rem and or xor shl shr "
            + "neg goto eq ne lt le gt ge isnull notnull same other new array length aload astore get put cast is call "
            + "send throw give back read write";

    public static void main(String[] args) {
        calls();
        text();
        names();
        numbers();
        types();
        programs();
        members();
        lines();
        operands();
        numbering();
        Check.finish();
    }

    private static void calls() {
        allCallsAnswer();
        longestText();
        laterCallsAreFree();
    }

    private static void text() {
        fedIsNoTextBeforeEnd();
        codes();
        blanks();
        remarks();
        tokens();
        tokensFromZero();
    }

    private static void names() {
        firstOfName();
        firstOfClassName();
        restOfNames();
        lengthOfNames();
    }

    private static void numbers() {
        minusOrNothing();
        oneToTenDigits();
        leastAndMostNumber();
    }

    private static void types() {
        typesInOneWord();
        resultOrNone();
        referenceInOneWord();
    }

    private static void programs() {
        firstTokenThatFitsNot();
        endOfTheText();
        perhapsNoClass();
        classHeads();
    }

    private static void members() {
        fields();
        statics();
        methods();
        locals();
    }

    private static void lines() {
        labels();
        catches();
        instructions();
        anyNameIsALabel();
    }

    private static void operands() {
        operandNumbers();
        operandNames();
        operandClassNames();
        operandElements();
        operandTypes();
        operandReferences();
    }

    private static void numbering() {
        overTheWholeText();
        numbersOfInstructions();
        refusedReadingsChangeNothing();
        refusedEndsChangeNothing();
        refusedFeedsChangeNothing();
        toldTillTheNextRead();
        mostInAll();
    }

    private static void allCallsAnswer() {
        Check.sentence("What it is", "An object is used for at most 512 calls after it has been made");
        BodyText x = Check.given(BODY + "read write } }");
        Check.due("read(), call 5", 0, x.read());
        for (int call = 6; call <= 512; call++) {
            Check.due("size(3), call " + call, 2, x.size(3));
        }
    }

    private static void longestText() {
        Check.sentence("What it is", "An object is used for at most 512 calls after it has been made");
        Check.due("read(), call 512, of 510 feeds", 0, Check.given(filled(510 * 20)).read());
        BodyText x = Check.given(filled(507 * 20));
        Check.due("read(), call 509, of 507 feeds", 0, x.read());
        int labels = (507 * 20 - BODY.length() - 2) / 2;
        Check.due("size(3), call 510", labels, x.size(3));
        Check.due("lineAt, call 511", BODY_TOKENS + 2 * (labels - 1), x.lineAt(labels - 1));
        Check.due("token, call 512", 507 * 20, x.token(BODY_TOKENS + 2 * labels + 1, true));
    }

    private static void laterCallsAreFree() {
        Check.sentence("What it is", "what later calls answer is free");
        // The answers are free, but LANGUAGE.md lets no call throw: an exception would end this test.
        BodyText x = new BodyText();
        for (int call = 0; call < 4000; call++) {
            x.feed(call, -call, 0x7B7D3A28, 0x20613A20, Integer.MIN_VALUE);
            x.end(call % 41 - 1);
            x.read();
            Check.told(x);
        }
    }

    /** A program with that many bytes and as many labels as go in. */
    private static String filled(int bytes) {
        int room = bytes - BODY.length() - 2;
        return BODY + "a:".repeat(room / 2) + " ".repeat(room % 2) + "}}";
    }

    private static void fedIsNoTextBeforeEnd() {
        Check.sentence("Terms 1", "The bytes that were fed become the TEXT by end().");
        BodyText x = new BodyText();
        x.feed(0x6F6F7073, 0, 0, 0, 0);
        Check.due("read() before end()", 0, x.read());
        Check.due("size(0) before end()", 0, x.size(0));
        Check.due("end(4)", true, x.end(4));
        Check.due("read() behind end()", 2, x.read());
        Check.due("size(0) behind end()", 1, x.size(0));
    }

    private static void codes() {
        Check.sentence("Terms 1", "It may have the codes 9, 10, 13 and 32 .. 126 (else fault 1).");
        String due = " 9 10 13 ";
        for (int code = 0; code < 256; code++) {
            boolean allowed = due.contains(" " + code + " ") || code >= 32 && code <= 126;
            String byItself = String.valueOf((char) code);
            for (String text : new String[] {byItself, "A" + byItself, byItself + "A", "A" + byItself + "A"}) {
                Check.due("a fault 1 with the code " + code, !allowed, Check.given(text).read() == 1);
            }
        }
    }

    private static void blanks() {
        Check.sentence("Terms 1", "9, 10, 13 and 32 are BLANKS");
        for (int code : new int[] {9, 10, 13, 32}) {
            String blank = String.valueOf((char) code);
            String text = blank + blank + "class" + blank + "A" + blank + blank + "of" + blank + "B{" + blank + "}" + blank;
            Check.places("the code " + code, Check.reading(text, 0, -1), 2, 7, 8, 9, 11, 13, 14, 15, 15, 16, 17, 18);
            Check.places("only the code " + code, Check.reading(blank, 0, -1));
        }
        Check.places("a!b", Check.reading("a!b", 2, 0), 0, 3);
    }

    private static void remarks() {
        Check.sentence("Terms 1", "; and all up to before the next 10 or the end is a blank too.");
        Check.places("; at the end", Check.reading("a;", 2, 0), 0, 1);
        Check.places("; alone", Check.reading(";", 0, -1));
        Check.places("up to the end", Check.reading("a;b ( { : c", 2, 0), 0, 1);
        Check.places("up to 10", Check.reading("a;b ( { : c\nd", 2, 0), 0, 1, 12, 13);
        Check.places("10 right behind ;", Check.reading("a;\nd", 2, 0), 0, 1, 3, 4);
        Check.places("not up to 13", Check.reading("a;b\rc\td e\nf", 2, 0), 0, 1, 10, 11);
        Check.places("; in a remark", Check.reading("a;;b;c\nd;e", 2, 0), 0, 1, 7, 8);
        Check.places("only to the next 10", Check.reading(";a\nb\nc;\n\nd", 2, 0), 3, 4, 5, 6, 9, 10);
        Check.places("between two signs", Check.reading("(;)\n)", 2, 0), 0, 1, 4, 5);
    }

    private static void tokens() {
        Check.sentence("Terms 1", "TOKENS are ( ) { } : each by itself, and WORDS, the longest rows of other characters");
        for (char sign : "(){}:".toCharArray()) {
            Check.places(sign + " alone", read("" + sign), 0, 1);
            Check.places(sign + " twice", read("" + sign + sign), 0, 1, 1, 2);
            Check.places(sign + " within a word", read("ab" + sign + "cd"), 0, 2, 2, 3, 3, 5);
        }
        for (char other = '!'; other <= '~'; other++) {
            if ("(){}:;".indexOf(other) < 0) {
                Check.places(other + " in a word", read("a" + other + other + "b"), 0, 4);
            }
        }
        Check.places("a long word", read("x".repeat(400) + " y"), 0, 400, 401, 402);
    }

    private static void tokensFromZero() {
        Check.sentence("Terms 1", "they are numbered from 0");
        Check.due("token(0, false)", 3, read("   a b").token(0, false));
        Check.due("token(1, false)", 5, read("   a b").token(1, false));
        Check.reading("a b", 2, 0);
        Check.due("classAt(0)", 1, read("class A of B { }").classAt(0));
    }

    private static void firstOfName() {
        Check.sentence("Terms 1", "NAMES begin with a .. z");
        for (char first = '!'; first <= '~'; first++) {
            if ("(){}:;".indexOf(first) < 0) {
                line(first + " :", first >= 'a' && first <= 'z' ? -1 : 0);
                line("goto " + first, first >= 'a' && first <= 'z' ? -1 : 1);
            }
        }
    }

    private static void firstOfClassName() {
        Check.sentence("Terms 1", "CLASS NAMES with A .. Z");
        for (char first = '!'; first <= '~'; first++) {
            if ("(){}:;".indexOf(first) < 0) {
                line("new " + first, first >= 'A' && first <= 'Z' ? -1 : 1);
            }
        }
    }

    private static void restOfNames() {
        Check.sentence("Terms 1", "then come letters, digits and _");
        for (char next = '!'; next <= '~'; next++) {
            if ("(){}:;".indexOf(next) < 0) {
                boolean fits = Character.isLetterOrDigit(next) || next == '_';
                line("goto a" + next, fits ? -1 : 1);
                line("goto a" + next + "b", fits ? -1 : 1);
                line("new A" + next, fits ? -1 : 1);
                line("new A" + next + "B", fits ? -1 : 1);
            }
        }
    }

    private static void lengthOfNames() {
        Check.sentence("Terms 1", "in all at most 24 characters");
        String[] withName = {"# :", "goto #", "get A.#", "catch # b c D", "catch a # c D", "catch a b # D"};
        int[] namePlaces = {0, 1, 1, 1, 2, 3};
        for (int i = 0; i < withName.length; i++) {
            line(withName[i].replace("#", NAME_24), -1);
            line(withName[i].replace("#", NAME_24 + "y"), namePlaces[i]);
        }
        String[] withClass = {"new #", "array #", "cast #", "is #[]", "get #.a", "catch a b c #"};
        int[] classPlaces = {1, 1, 1, 1, 1, 4};
        for (int i = 0; i < withClass.length; i++) {
            line(withClass[i].replace("#", CLASS_24), -1);
            line(withClass[i].replace("#", CLASS_24 + "y"), classPlaces[i]);
        }
        program("class " + CLASS_24 + " of " + CLASS_24 + " { field " + NAME_24 + " " + CLASS_24 + "[] }", -1);
        program("class " + CLASS_24 + "9 of B { }", 1);
        program("class A of " + CLASS_24 + "_ { }", 3);
        program("class A of B { field " + NAME_24 + "Y int }", 6);
        program("class A of B { field x " + CLASS_24 + "Y[] }", 7);
        program("class A of B { method " + NAME_24 + "Y ( ) int 0 { } }", 6);
    }

    private static void minusOrNothing() {
        Check.sentence("Terms 1", "NUMBERS: - or nothing, and one to ten digits");
        everyNumber("0 -0 1 -1 9 -9 007 -007", true);
        everyNumber("+1 --1 -+1 1- 1-1 _1 1_ .1 1. 1.0 1e1 0x1 a1 1a -a / <", false);
    }

    private static void oneToTenDigits() {
        Check.sentence("Terms 1", "one to ten digits");
        everyNumber("5 -5 0000000000 -0000000000 0000000005 -0000000005 1999999999 -1999999999", true);
        everyNumber("- 00000000000 -00000000000 00000000005 -00000000005 19999999999 -19999999999", false);
    }

    private static void leastAndMostNumber() {
        Check.sentence("Terms 1", "from -2147483648 to 2147483647");
        everyNumber("2147483646 2147483647 -2147483647 -2147483648", true);
        everyNumber("2147483648 2147483649 -2147483649 -2147483650 9999999999 -9999999999", false);
        // These come back into the range where a sum of int or of long wraps around.
        everyNumber("4294967296 4294967297 -4294967296 8589934592 18446744073709551616 36893488147419103232", false);
    }

    private static void everyNumber(String words, boolean fits) {
        for (String word : words.split(" ")) {
            line("push " + word, fits ? -1 : 1);
            line("inc " + word + " 1", fits ? -1 : 1);
            line("inc 1 " + word, fits ? -1 : 2);
            program("class A of B { static m ( ) none " + word + " { } }", fits ? -1 : 10);
        }
    }

    private static void typesInOneWord() {
        Check.sentence("Terms 1", "TYPES: int, a class name, int[], a class name and [] behind it in one word.");
        everyType("int A int[] A[] Int Int[]", true);
        everyType("in intt i a none 7 [] int[ int] int][ int[][] in[] intt[] int[]a int[a inta] int[[ "
                + "A[ A] A][ A[][] A[]B A[a Aa] A]] a[] 7[] [A] [int] A.b none[] A.[] A[7]", false);
        program("class A of B { field x int [] }", 8);
        program("class A of B { static m ( A [] ) none 0 { } }", 9);
    }

    private static void everyType(String words, boolean fits) {
        for (String word : words.split(" ")) {
            program("class A of B { field x " + word + " }", fits ? -1 : 7);
            program("class A of B { static m ( " + word + " ) none 0 { } }", fits ? -1 : 8);
            program("class A of B { static m ( int " + word + " ) none 0 { } }", fits ? -1 : 9);
        }
    }

    private static void resultOrNone() {
        Check.sentence("Terms 1", "RESULTS: a type, or none.");
        for (String word : "none int A int[] A[]".split(" ")) {
            program("class A of B { method m ( ) " + word + " 0 { } }", -1);
        }
        for (String word : "non nonee None[ none[] void a 7 [] A.b ( { :".split(" ")) {
            program("class A of B { method m ( ) " + word + " 0 { } }", 9);
        }
        program("class A of B { method m ( ) none none 0 { } }", 10);
        program("class A of B { method m ( ) int int 0 { } }", 10);
        program("class A of B { method m ( none ) none 0 { } }", 8);
        program("class A of B { field x none }", 7);
        line("cast none", 1);
    }

    private static void referenceInOneWord() {
        Check.sentence("Terms 1", "REFERENCES: a class name, . and a name, in one word.");
        line("get A.b get Z9_.z9_ get Int.int", -1);
        for (String word : "A b A. .b . A.. A..b A.B a.b a.B A.b.c A.b. .A.b A.9 9.b A-b A.b[] A[].b int.b".split(" ")) {
            line("get " + word, 1);
        }
        line("get A .b", 1);
        line("get A. b", 1);
        line("get A . b", 1);
    }

    private static void firstTokenThatFitsNot() {
        Check.sentence("Terms 2", "fault 2 at the first token with which those so far are not the beginning of a program");
        program("A", 0);
        program("A ) A )", 0);
        program("class A of B { } oops", 6);
        program("class A of B { field x } }", 7);
        // One wrong token at each place of a program.
        String[] tokens = "class A of B { field x int static m ( int ) none 0 { a : push 7 } }".split(" ");
        for (int wrong = 0; wrong < tokens.length; wrong++) {
            String[] spoilt = tokens.clone();
            spoilt[wrong] = "?";
            program(String.join(" ", spoilt), wrong);
        }
    }

    private static void endOfTheText() {
        Check.sentence("Terms 2", "at the end of the text the number of tokens");
        String[] tokens = ("class A of B { field x int static m ( int A ) none 0 { a : catch a b c D inc 0 1 dup } "
                + "method n ( ) A[] 1 { } } class C of A { }").split(" ");
        StringBuilder text = new StringBuilder();
        for (int n = 0; n < tokens.length; n++) {
            program(text.toString(), n == 0 || tokens[n].equals("class") ? -1 : n);
            program(text + ";", n == 0 || tokens[n].equals("class") ? -1 : n);
            text.append(tokens[n]).append(' ');
        }
        program(text.toString(), -1);
    }

    private static void perhapsNoClass() {
        Check.sentence("Terms 2", "A program is a row of classes (perhaps none)");
        program("", -1);
        program(" \t\r\n", -1);
        program("; class", -1);
        program("class A of B { }", -1);
        program("class A of B { } class A of A { } class C of Z { }", -1);
        program("class A of B { } }", 6);
        program("class A of B { } {", 6);
        program("class A of B { } static m ( ) none 0 { }", 6);
    }

    private static void classHeads() {
        Check.sentence("Terms 2", "class NAME of SUPER { members }  with class names");
        for (String word : "a int int[] A[] A.b 7 of class : {".split(" ")) {
            program("class " + word + " of B { }", 1);
            program("class A of " + word + " { }", 3);
        }
        for (String word : "B Of off o : {".split(" ")) {
            program("class A " + word + " B { }", 2);
        }
        for (String word : "Class classs clas static A {".split(" ")) {
            program(word + " A of B { }", 0);
        }
        for (String word : "} ( : B field".split(" ")) {
            program("class A of B " + word, 4);
        }
        for (String word : "{ ( ) : A a class of push".split(" ")) {
            program("class A of B { " + word + " }", 5);
        }
    }

    private static void fields() {
        Check.sentence("Terms 2", "Members:  field NAME TYPE");
        program("class A of B { field x int field y A[] }", -1);
        program("class A of B { field field int field none int field int int }", -1);
        for (String word : "X 7 x[] X.x ( : }".split(" ")) {
            program("class A of B { field " + word + " int }", 6);
        }
        for (String word : "x ( : } { 7 none".split(" ")) {
            program("class A of B { field x " + word, 7);
        }
        program("class A of B { field x int int }", 8);
        program("class A of B { field x int 0 }", 8);
    }

    private static void statics() {
        Check.sentence("Terms 2", "static NAME ( types ) RESULT LOCALS { lines }");
        everyRoutine("static");
    }

    private static void methods() {
        Check.sentence("Terms 2", "method NAME ( types ) RESULT LOCALS { lines }");
        everyRoutine("method");
    }

    private static void everyRoutine(String kind) {
        String head = "class A of B { " + kind;
        program(head + " m ( ) none 0 { } }", -1);
        program(head + " m(int)int 1{}" + kind + " m(A A[] int[] int)A 1{back}}", -1);
        program(head + " " + kind + " ( ) none 0 { } }", -1);
        program(head + " M ( ) none 0 { } }", 6);
        program(head + " ( ) none 0 { } }", 6);
        program(head + " m int ) none 0 { } }", 7);
        program(head + " m ) none 0 { } }", 7);
        program(head + " m ( ( ) none 0 { } }", 8);
        program(head + " m ( { ) none 0 { } }", 8);
        program(head + " m ( int none 0 { } }", 9);
        program(head + " m ( ) ) none 0 { } }", 9);
        program(head + " m ( ) 0 { } }", 9);
        program(head + " m ( ) none { } }", 10);
        program(head + " m ( ) none 0 } }", 11);
        program(head + " m ( ) none 0 ( ) }", 11);
        program(head + " m ( ) none 0 { ) }", 12);
        program(head + " m ( ) none 0 { } } }", 14);
        program(head + " m ( ) none 0 { }", 13);
    }

    private static void locals() {
        Check.sentence("Terms 2", "LOCALS is a number.");
        for (String word : "0 -1 7 2147483647 -2147483648".split(" ")) {
            program("class A of B { method m ( ) none " + word + " { } }", -1);
        }
        for (String word : "2147483648 - a A int none { : (".split(" ")) {
            program("class A of B { method m ( ) none " + word + " { } }", 10);
        }
        program("class A of B { method m ( ) none 1 1 { } }", 11);
    }

    private static void labels() {
        Check.sentence("Terms 2", "LABEL :  with a name");
        line("a : a : z9_:", -1);
        for (String word : "A 7 -7 A.b int[] A[] ? : ( ) {".split(" ")) {
            line(word + " :", 0);
        }
        line("a : :", 2);
        line("a a :", 1);
    }

    private static void catches() {
        Check.sentence("Terms 2", "catch FROM TO AT CLASS  with three names and a class name");
        line("catch a b c D catch catch catch catch Catch", -1);
        for (String word : "A 7 A.b A[] int[] ? ( }".split(" ")) {
            line("catch " + word + " b c D", 1);
            line("catch a " + word + " c D", 2);
            line("catch a b " + word + " D", 3);
        }
        for (String word : "a int 7 A.b A[] int[] none ( } :".split(" ")) {
            line("catch a b c " + word, 4);
        }
        line("catch a : c D", 2);
        line("catch a b c D E", 5);
        line("Catch a b c D", 0);
    }

    private static void instructions() {
        Check.sentence("Terms 2", "else an INSTRUCTION and its operands");
        for (String word : ALONE.split(" ")) {
            line(word, -1);
            line(word + " " + word, -1);
            for (String operand : "7 A int[] A[] A.b ? ( ) {".split(" ")) {
                line(word + " " + operand, 1);
            }
        }
        // Nearly instructions: a label might begin with them, so that the token behind them is the fault.
        for (String word : "pushh pus wrte i class field of none int catchh".split(" ")) {
            line(word, 1);
            line(word + " dup", 1);
            line(word + " 7", 1);
        }
        for (String word : "Push PUSH 7 push- A.b".split(" ")) {
            line(word, 0);
        }
    }

    private static void anyNameIsALabel() {
        Check.sentence("Terms 2", "a word with a : behind it is a label, whatever it is");
        for (String word : (IN_ORDER + " catch class of field static method int none").split(" ")) {
            BodyText x = line(word + " : " + word + ":", -1);
            Check.due("size(3) of " + word + " : twice", 2, x.size(3));
            Check.due("line(0) of " + word + " :", 0, x.line(0));
            Check.due("line(1) of " + word + " :", 0, x.line(1));
            Check.due("instruction(0) of " + word + " :", -1, x.instruction(0));
        }
        Check.due("line(1) of dup, a label behind it", 0, line("dup dup : dup", -1).line(1));
        line("push : 7", 2);
    }

    private static void operandNumbers() {
        Check.sentence("Terms 2", "with N, K numbers");
        for (String word : "push load store".split(" ")) {
            everyOperand(word + " #", 1, "7 -7");
        }
        everyOperand("inc # 7", 1, "7 -7");
        everyOperand("inc 7 #", 2, "7 -7");
        line("inc 7 :", 2);
        line("inc 7 7 7", 3);
        line("push 7 7", 2);
    }

    private static void operandNames() {
        Check.sentence("Terms 2", "L names");
        for (String word : "goto eq ne lt le gt ge isnull notnull same other".split(" ")) {
            everyOperand(word + " #", 1, "a int none class");
            line(word + " " + word, -1);
        }
        line("goto a :", 2);
    }

    private static void operandClassNames() {
        Check.sentence("Terms 2", "C class names");
        everyOperand("new #", 1, "A");
    }

    private static void operandElements() {
        Check.sentence("Terms 2", "E int or a class name");
        everyOperand("array #", 1, "int A");
    }

    private static void operandTypes() {
        Check.sentence("Terms 2", "T types but int");
        everyOperand("cast #", 1, "A int[] A[]");
        everyOperand("is #", 1, "A int[] A[]");
    }

    private static void operandReferences() {
        Check.sentence("Terms 2", "F references");
        for (String word : "get put call send".split(" ")) {
            everyOperand(word + " #", 1, "A.b");
        }
    }

    /** Puts a word of every sort in the place of #: only those that fit are no fault. */
    private static void everyOperand(String pattern, int token, String fitting) {
        for (String word : SORTS.split(" ")) {
            boolean fits = (" " + fitting + " ").contains(" " + word + " ");
            line(pattern.replace("#", word), fits ? -1 : token);
        }
    }

    private static void overTheWholeText() {
        Check.sentence("Terms 2", "Lines are numbered from 0 over the whole text, classes and members too.");
        BodyText x = program("class A of B { field f int static s ( ) none 0 { dup pop } } class C of A { } "
                + "class D of C { method m ( ) none 0 { } method n ( ) none 0 { swap a : } }", -1);
        Check.sizes("three classes", x, 50, 3, 4, 4);
        Check.answers("classAt", new int[] {1, 20, 26, -1}, x.classAt(0), x.classAt(1), x.classAt(2), x.classAt(3));
        Check.answers("member", new int[] {0, 1, 2, 2, -1}, x.member(0), x.member(1), x.member(2), x.member(3),
                x.member(4));
        Check.answers("memberAt", new int[] {6, 9, 31, 39, -1}, x.memberAt(0), x.memberAt(1), x.memberAt(2),
                x.memberAt(3), x.memberAt(4));
        Check.answers("line", new int[] {2, 2, 2, 0, -1}, x.line(0), x.line(1), x.line(2), x.line(3), x.line(4));
        Check.answers("lineAt", new int[] {15, 16, 45, 46, -1}, x.lineAt(0), x.lineAt(1), x.lineAt(2), x.lineAt(3),
                x.lineAt(4));
        Check.answers("instruction", new int[] {5, 6, 7, -1, -1}, x.instruction(0), x.instruction(1), x.instruction(2),
                x.instruction(3), x.instruction(4));
    }

    private static void numbersOfInstructions() {
        Check.sentence("Terms 2", "INSTRUCTIONS have the numbers 0 (push) to 45 (write) in the order above.");
        String[] words = IN_ORDER.split(" ");
        Check.due("instructions", 46, words.length);
        for (int number = 0; number < words.length; number++) {
            String whole = words[number] + operandsOf(words[number]);
            Check.due("instruction(0) of " + whole, number, line(whole, -1).instruction(0));
            Check.due("instruction(1) of dup " + whole, number, line("dup " + whole, -1).instruction(1));
        }
    }

    private static String operandsOf(String word) {
        return switch (word) {
            case "push", "load", "store" -> " 7";
            case "inc" -> " 7 7";
            case "goto", "eq", "ne", "lt", "le", "gt", "ge", "isnull", "notnull", "same", "other" -> " a";
            case "new", "array", "cast", "is" -> " A";
            case "get", "put", "call", "send" -> " A.b";
            default -> "";
        };
    }

    /** An object that has read a text, has the next one ended, and has fed twenty bytes of a third. */
    private static BodyText inTheMiddle() {
        BodyText x = program(BODY + "wrte } }", BODY_TOKENS + 1);
        Check.give(x, "class A of B { }");
        Check.due("feed", 20, x.feed(0x28290000, 0, 0, 0, 0));
        return x;
    }

    /** Compares all that the object holds with what it held before a refused call. */
    private static void stillInTheMiddle(String call, BodyText x) {
        Check.due("what was read is told as before " + call, true, Check.told(inTheMiddle()).equals(Check.told(x)));
        Check.due("feed behind " + call, 40, x.feed(0, 0, 0, 0, 0));
        Check.due("read() behind " + call, 0, x.read());
        Check.sizes("the text that waited, behind " + call, x, 6, 1, 0, 0);
        Check.due("end(2) behind " + call, true, x.end(2));
        Check.due("read() of the third text behind " + call, 2, x.read());
        Check.places("the third text behind " + call, x, 0, 1, 1, 2);
    }

    private static void refusedReadingsChangeNothing() {
        Check.sentence("Terms 2", "A call that is refused changes nothing");
        for (int k : new int[] {-1, 4, 1000, Integer.MIN_VALUE, Integer.MAX_VALUE}) {
            BodyText x = inTheMiddle();
            Check.answers("refused at " + k, new int[] {-1, -1, -1, -1, -1, -1, -1}, x.size(k), x.classAt(k), x.member(k),
                    x.memberAt(k), x.line(k), x.lineAt(k), x.instruction(k));
            int t = k == 4 ? 15 : k;
            Check.answers("token refused at " + t, new int[] {-1, -1}, x.token(t, false), x.token(t, true));
            stillInTheMiddle("the calls refused at " + k, x);
        }
    }

    private static void refusedEndsChangeNothing() {
        Check.sentence("Terms 2", "A call that is refused changes nothing");
        for (int n : new int[] {-1, 21, Integer.MIN_VALUE, Integer.MAX_VALUE}) {
            BodyText x = inTheMiddle();
            Check.due("end(" + n + ")", false, x.end(n));
            stillInTheMiddle("end(" + n + ")", x);
        }
    }

    // The limits of feed lie behind the 512th call, where the answers are free; they are kept all the same.
    private static void refusedFeedsChangeNothing() {
        Check.sentence("Terms 2", "A call that is refused changes nothing");
        BodyText x = program(BODY + "wrte } }", BODY_TOKENS + 1);
        String before = Check.told(x);
        Check.give(x, "class A of B { }");
        for (int i = 0; i < 800; i++) {
            x.feed(0x28292020, 0x20202020, 0x20202020, 0x20202020, 0x20202020);
        }
        Check.due("feed over 16000", -1, x.feed(0, 0, 0, 0, 0));
        Check.due("feed over 16000 again", -1, x.feed(0, 0, 0, 0, 0));
        Check.due("what was read is told as before", true, before.equals(Check.told(x)));
        Check.due("read() of the text that waited", 0, x.read());
        Check.sizes("the text that waited", x, 6, 1, 0, 0);
        Check.due("end(16001)", false, x.end(16001));
        Check.due("end(16000)", true, x.end(16000));
        Check.due("read() of the full text", 2, x.read());
        Check.sizes("the full text", x, 1600, 0, 0, 0);
    }

    private static void toldTillTheNextRead() {
        Check.sentence("Terms 2", "what was read is told till the next read().");
        BodyText x = program(BODY + "load 0 a : catch a b c D wrte } }", BODY_TOKENS + 10);
        String before = Check.told(x);
        x.feed(0x28202020, 0x20202020, 0x20202020, 0x20202020, 0x20202020);
        Check.due("told behind feed", true, before.equals(Check.told(x)));
        x.end(20);
        Check.due("told behind end", true, before.equals(Check.told(x)));
        x.end(0);
        Check.due("told behind a second end", true, before.equals(Check.told(x)));
        x.read();
        Check.due("told behind read", true, Check.told(new BodyText()).equals(Check.told(x)));
    }

    // The limit lies behind the 512th call, where the answers are free; it is kept all the same.
    private static void mostInAll() {
        Check.sentence("Terms 2", "At most 65536 bytes can be fed in all.");
        BodyText x = new BodyText();
        for (int text = 1; text <= 4; text++) {
            for (int fed = 20; fed <= 16000; fed += 20) {
                Check.due("feed in text " + text, fed, x.feed(0, 0, 0, 0, 0));
            }
            Check.due("end(16000)", true, x.end(16000));
        }
        for (int fed = 20; fed <= 65520 - 64000; fed += 20) {
            Check.due("feed up to 65520 in all", fed, x.feed(0, 0, 0, 0, 0));
        }
        Check.due("feed up to 65540 in all", -1, x.feed(0, 0, 0, 0, 0));
        Check.due("end(1521)", false, x.end(1521));
        Check.due("end(1520)", true, x.end(1520));
        Check.due("feed behind end, still over 65536 in all", -1, x.feed(0, 0, 0, 0, 0));
    }

    private static BodyText read(String text) {
        BodyText x = Check.given(text);
        x.read();
        return x;
    }

    /** Reads a text that is a program (token -1) or has its fault 2 at the token. */
    private static BodyText program(String text, int token) {
        return Check.reading(text, token < 0 ? 0 : 2, token);
    }

    /** Reads a program with these lines; the token counts from the first of the lines. */
    private static BodyText line(String lines, int token) {
        return program(BODY + lines + " } }", token < 0 ? -1 : BODY_TOKENS + token);
    }
}
