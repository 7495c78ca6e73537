/** Promises 4 and 5 for programs: which are programs, and the token of their fault 2. */
public final class ProgramTest {
    private static final String NAME_24 = "abcdefghijklmnopqrstuvwx";
    private static final String CLASS_24 = "ABCDEFGHIJKLMNOPQRSTUVWX";
    private static final String BODY = "class A of B { static m ( ) none 0 { ";
    private static final int BODY_TOKENS = 12;

    public static void main(String[] args) {
        classes();
        fields();
        routines();
        names();
        numbers();
        types();
        labels();
        catches();
        everyCutIsABeginning();
        Check.finish();
    }

    private static void classes() {
        program("");
        program("class A of B { }");
        program("class A of A{}class B of A{}");
        program("class A of B { } class A of B { }");
        fault("A", 0);
        fault("class", 1);
        fault("class a of B { }", 1);
        fault("class A : B { }", 2);
        fault("class A of b { }", 3);
        fault("class A of B }", 4);
        fault("class A of B ( )", 4);
        fault("class A of B { ) }", 5);
        fault("class A of B { A }", 5);
        fault("class A of B { class C of D { } }", 5);
        fault("class A of B { } }", 6);
        fault("class A of B { } field x int", 6);
        fault("Class A of B { }", 0);
        fault("classA of B { }", 0);
    }

    private static void fields() {
        program("class A of B { field x int field y C field z int[] field w C[] }");
        program("class A of B { field field int field int int field class A }");
        fault("class A of B { field X int }", 6);
        fault("class A of B { field 1 int }", 6);
        fault("class A of B { field x none }", 7);
        fault("class A of B { field x y }", 7);
        fault("class A of B { field x int 3 }", 8);
        fault("class A of B { field x int", 8);
        fault("class A of B { field x : int }", 7);
    }

    private static void routines() {
        program("class A of B { static m ( ) none 0 { } }");
        program("class A of B { method m ( int int[] C C[] ) C[] -3 { } static static ( ) int 7 { } }");
        program("class A of B{static m()none 0{}}");
        fault("class A of B { static M ( ) none 0 { } }", 6);
        fault("class A of B { static m { } }", 7);
        fault("class A of B { static m ( none ) none 0 { } }", 8);
        fault("class A of B { static m ( int", 9);
        fault("class A of B { static m ( ( ) none 0 { } }", 8);
        fault("class A of B { static m ( int , int ) none 0 { } }", 9);
        fault("class A of B { static m ( ) 0 { } }", 9);
        fault("class A of B { static m ( ) void 0 { } }", 9);
        fault("class A of B { static m ( ) none { } }", 10);
        fault("class A of B { static m ( ) none x { } }", 10);
        fault("class A of B { static m ( ) none 0 }", 11);
        fault("class A of B { static m ( ) none 0 { }", 13);
        fault("class A of B { static m ( ) none 0 { static", 13);
        fault("class A of B { virtual m ( ) none 0 { } }", 5);
    }

    private static void names() {
        program(inBody(NAME_24 + " :"));
        inBodyFault(NAME_24 + "y :", 0);
        program(inBody("aZ09_ :"));
        inBodyFault("a-b :", 0);
        inBodyFault("_a :", 0);
        inBodyFault("9 :", 0);
        inBodyFault("A :", 0);
        program("class " + CLASS_24 + " of Aa9_ { }");
        fault("class " + CLASS_24 + "Y of B { }", 1);
        fault("class A of " + CLASS_24 + "Y { }", 3);
        fault("class A$ of B { }", 1);
        program(inBody("get " + CLASS_24 + "." + NAME_24));
        inBodyFault("get " + CLASS_24 + "Y." + NAME_24, 1);
        inBodyFault("get " + CLASS_24 + "." + NAME_24 + "y", 1);
        for (String reference : new String[] {"A.B", "a.b", "A.", ".b", "A", "b", "A.b.c", "A..b", "A.b[]", "A .b"}) {
            inBodyFault("get " + reference, 1);
        }
    }

    private static void numbers() {
        for (String n : new String[] {"0", "-0", "7", "0000000007", "-0000000007", "2147483647", "-2147483648"}) {
            program(inBody("push " + n));
            program("class A of B { static m ( ) none " + n + " { } }");
        }
        String[] wrong = {"2147483648", "-2147483649", "9999999999", "-9999999999", "00000000000", "-00000000000",
            "-", "--1", "+1", "1-", "0x1", "1.", "1a", "a", "4294967296", "18446744073709551616"};
        for (String n : wrong) {
            inBodyFault("push " + n, 1);
            fault("class A of B { static m ( ) none " + n + " { } }", 10);
        }
    }

    private static void types() {
        for (String type : new String[] {"int", "int[]", "A", "A[]", CLASS_24 + "[]"}) {
            program("class A of B { field x " + type + " static m ( " + type + " ) " + type + " 0 { } }");
        }
        String[] wrong = {"i", "i[]", "in[]", "intt", "intt[]", "none", "none[]", "a", "a[]", "[]", "int[][]", "A[][]",
            "A[x", "Ax]", "A[", "A]", "A][", "Int.x", "1", CLASS_24 + "Y[]", "INT[", "int[]x"};
        for (String type : wrong) {
            fault("class A of B { field x " + type + " }", 7);
        }
        program(inBody("cast int[] cast A cast A[] is int[] is A is A[]"));
        inBodyFault("cast int", 1);
        inBodyFault("is int", 1);
        program(inBody("array int array A"));
        inBodyFault("array int[]", 1);
        inBodyFault("array A[]", 1);
        inBodyFault("new int", 1);
        inBodyFault("new A[]", 1);
    }

    private static void labels() {
        program(inBody("a : b : c :"));
        program(inBody("a:dup b:"));
        program(inBody("push : catch : dup : field : goto : none : int :"));
        program(inBody("goto push push : goto goto"));
        inBodyFault(":", 0);
        inBodyFault("a : :", 2);
        inBodyFault("dup : :", 2);
        inBodyFault("a b :", 1);
        inBodyFault("wrte", 1);
        inBodyFault("goto a : dup", 2);
        inBodyFault("push 1 :", 2);
        inBodyFault("( a :", 0);
        inBodyFault("{ }", 0);
        inBodyFault("a ( :", 1);
        fault(BODY + "a", BODY_TOKENS + 1);
        fault(BODY + "a :", BODY_TOKENS + 2);
    }

    private static void catches() {
        program(inBody("catch a b c D catch catch catch catch Catch"));
        inBodyFault("catch A b c D", 1);
        inBodyFault("catch a 1 c D", 2);
        inBodyFault("catch a b : D", 3);
        inBodyFault("catch a b c d", 4);
        inBodyFault("catch a b c :", 4);
        inBodyFault("catch a b c int", 4);
        inBodyFault("catch a b c D :", 5);
        inBodyFault("catch", 1);
    }

    /** A program that is cut off between two tokens has its fault at the end, unless a class ended there. */
    private static void everyCutIsABeginning() {
        String[] tokens = ("class A of B { field x int method m ( int A[] ) none 3 { a : push -1 inc 0 1 dup goto a "
                + "catch a b c D } } class C of A { }").split(" ");
        StringBuilder text = new StringBuilder();
        for (int n = 0; n <= tokens.length; n++) {
            boolean whole = n == 0 || n == tokens.length || tokens[n].equals("class");
            Check.reading(text.toString(), whole ? 0 : 2, whole ? -1 : n);
            if (n < tokens.length) {
                text.append(tokens[n]).append(n % 2 == 0 ? " " : "\r\n");
            }
        }
    }

    private static String inBody(String lines) {
        return BODY + lines + " } }";
    }

    private static void program(String text) {
        Check.reading(text, 0, -1);
    }

    private static void fault(String text, int token) {
        Check.reading(text, 2, token);
    }

    private static void inBodyFault(String lines, int token) {
        fault(inBody(lines), BODY_TOKENS + token);
    }
}
