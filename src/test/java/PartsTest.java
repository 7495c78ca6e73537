/** Promises 6 and 8 to 13: sizes, classes, members, lines and instructions, with and without a fault. */
public final class PartsTest {
    private static final String[] INSTRUCTIONS = {
        "push 1", "null", "load 1", "store 1", "inc 1 -1", "dup", "pop", "swap", "add", "sub", "mul", "div", "rem",
        "and", "or", "xor", "shl", "shr", "neg", "goto a", "eq a", "ne a", "lt a", "le a", "gt a", "ge a", "isnull a",
        "notnull a", "same a", "other a", "new A", "array int", "length", "aload", "astore", "get A.b", "put A.b",
        "cast A", "is A[]", "call A.b", "send A.b", "throw", "give", "back", "read", "write"};
    private static final String BODY = "class A of B { static m ( ) none 0 { ";
    private static final int BODY_TOKENS = 12;

    public static void main(String[] args) {
        everyInstruction();
        everyInstructionAsLabel();
        everyWrongOperand();
        wholeProgram();
        faultsInHeads();
        faultsInLines();
        outside();
        Check.finish();
    }

    private static void everyInstruction() {
        String text = BODY + String.join(" ", INSTRUCTIONS) + " } }";
        BodyText x = Check.reading(text, 0, -1);
        Check.due("size(3) of all instructions", 46, x.size(3));
        int token = BODY_TOKENS;
        for (int k = 0; k < 46; k++) {
            Check.due("line(" + k + ")", 2, x.line(k));
            Check.due("lineAt(" + k + ")", token, x.lineAt(k));
            Check.due("instruction(" + k + ")", k, x.instruction(k));
            token += INSTRUCTIONS[k].split(" ").length;
        }
        Check.due("line(46)", -1, x.line(46));
    }

    private static void everyInstructionAsLabel() {
        for (String instruction : INSTRUCTIONS) {
            String word = instruction.split(" ")[0];
            BodyText x = Check.reading(BODY + word + " : " + instruction + " } }", 0, -1);
            kinds(word + " :", x, 0, 2);
            Check.due("instruction(0) of a label", -1, x.instruction(0));
        }
    }

    private static void everyWrongOperand() {
        String[] operands = {"7", "a", "A", "int", "A[]", "int[]", "A.b", "none", ":", "(", "}"};
        for (int k = 0; k < 46; k++) {
            String[] words = INSTRUCTIONS[k].split(" ");
            if (words.length == 1) {
                continue;
            }
            for (String operand : operands) {
                if (!operand.equals(":") && !fits(k, operand)) {
                    BodyText x = Check.reading(BODY + words[0] + " " + operand + " } }", 2, BODY_TOKENS + 1);
                    Check.due("size(3) of " + words[0] + " " + operand, 1, x.size(3));
                }
            }
        }
        Check.reading(BODY + "inc 1 a } }", 2, BODY_TOKENS + 2);
        Check.reading(BODY + "inc 1 } }", 2, BODY_TOKENS + 2);
        Check.reading(BODY + "dup 1 } }", 2, BODY_TOKENS + 1);
    }

    private static boolean fits(int k, String operand) {
        String wanted = k <= 4 ? "7" : k <= 29 ? "a int none" : k == 30 ? "A" : k == 31 ? "A int"
                : k == 37 || k == 38 ? "A A[] int[]" : "A.b";
        return (" " + wanted + " ").contains(" " + operand + " ");
    }

    private static void wholeProgram() {
        String text = "class A of B { field f int method m ( int ) int 2 { a : load 1 goto a catch a b c D } }\n"
                + "class E of A { static s ( ) none 0 { back } field g A[] }";
        BodyText x = Check.reading(text, 0, -1);
        Check.sizes(text, x, 47, 2, 4, 5);
        Check.answers("classAt", new int[] {1, 30}, x.classAt(0), x.classAt(1));
        Check.answers("member", new int[] {0, 2, 1, 0}, x.member(0), x.member(1), x.member(2), x.member(3));
        Check.answers("memberAt", new int[] {6, 9, 35, 44}, x.memberAt(0), x.memberAt(1), x.memberAt(2), x.memberAt(3));
        kinds(text, x, 0, 2, 2, 1, 2);
        Check.answers("lineAt", new int[] {16, 18, 20, 22, 41}, x.lineAt(0), x.lineAt(1), x.lineAt(2), x.lineAt(3),
                x.lineAt(4));
        Check.answers("instruction", new int[] {-1, 2, 19, -1, 43}, x.instruction(0), x.instruction(1), x.instruction(2),
                x.instruction(3), x.instruction(4));
    }

    private static void faultsInHeads() {
        Check.sizes("class", Check.reading("class", 2, 1), 1, 0, 0, 0);
        Check.sizes("class a", Check.reading("class a of B { }", 2, 1), 6, 0, 0, 0);
        Check.sizes("class A", Check.reading("class A", 2, 2), 2, 1, 0, 0);
        Check.sizes("class A A", Check.reading("class A A of B { }", 2, 2), 7, 1, 0, 0);
        Check.sizes("} class", Check.reading("class A of B { } } class C of D { }", 2, 6), 13, 1, 0, 0);
        Check.sizes("field", Check.reading("class A of B { field", 2, 6), 6, 1, 0, 0);
        Check.sizes("field X", Check.reading("class A of B { field X int }", 2, 6), 9, 1, 0, 0);
        BodyText field = Check.reading("class A of B { field x", 2, 7);
        Check.sizes("field x", field, 7, 1, 1, 0);
        Check.answers("field x", new int[] {0, 6}, field.member(0), field.memberAt(0));
        BodyText routine = Check.reading("class A of B { field x int method m none", 2, 10);
        Check.sizes("method m none", routine, 11, 1, 2, 0);
        Check.answers("method m none", new int[] {2, 9}, routine.member(1), routine.memberAt(1));
    }

    private static void faultsInLines() {
        faultyLine("A", 0);
        faultyLine(":", 0);
        faultyLine("wrte", 1, -1);
        faultyLine("wrte back", 1, -1);
        faultyLine("dup wrte )", 2, 2, -1);
        faultyLine("dup )", 1, 2);
        faultyLine("load x", 1, 2);
        faultyLine("inc 1 x", 2, 2);
        faultyLine("catch 1", 1, 1);
        faultyLine("catch a b c d", 4, 1);
        faultyLine("goto a :", 2, 2);
        faultyLine("a : load 0 push : A dup", 6, 0, 2, 0);
        BodyText x = Check.reading(BODY + "wrte back } }", 2, BODY_TOKENS + 1);
        Check.due("lineAt(0) of an unclear line", BODY_TOKENS, x.lineAt(0));
        Check.due("instruction(0) of an unclear line", -1, x.instruction(0));
        kinds("wrte at the end", Check.reading(BODY + "wrte", 2, BODY_TOKENS + 1), -1);
        kinds("load at the end", Check.reading(BODY + "load", 2, BODY_TOKENS + 1), -1);
        kinds("catch at the end", Check.reading(BODY + "catch", 2, BODY_TOKENS + 1), -1);
    }

    private static void faultyLine(String lines, int token, int... kinds) {
        kinds(lines, Check.reading(BODY + lines + " } }", 2, BODY_TOKENS + token), kinds);
    }

    private static void outside() {
        BodyText x = Check.reading(BODY + "back } }", 0, -1);
        for (int k : new int[] {-1, 1, 2, 16, 16000, Integer.MIN_VALUE, Integer.MAX_VALUE}) {
            Check.answers("outside at " + k, new int[] {-1, -1, -1, -1, -1, -1}, x.classAt(k), x.member(k), x.memberAt(k),
                    x.line(k), x.lineAt(k), x.instruction(k));
        }
        // Rows are used again: nothing of a longer text may show behind a shorter one.
        Check.give(x, "class A of B { }");
        Check.due("read() of a shorter text", 0, x.read());
        Check.sizes("a shorter text", x, 6, 1, 0, 0);
        Check.answers("behind a shorter text", new int[] {-1, -1, -1, -1, -1, -1}, x.token(6, false), x.member(0),
                x.memberAt(0), x.line(0), x.lineAt(0), x.instruction(0));
    }

    private static void kinds(String text, BodyText x, int... want) {
        Check.due("size(3) of " + text, want.length, x.size(3));
        for (int k = 0; k < want.length; k++) {
            Check.due("line(" + k + ") of " + text, want[k], x.line(k));
        }
        Check.due("line behind the last of " + text, -1, x.line(want.length));
    }
}
