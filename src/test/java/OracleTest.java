import java.util.ArrayList;
import java.util.List;
import java.util.Random;
import java.util.regex.Matcher;
import java.util.regex.Pattern;

/**
 * Compares the class with a second reader, made of regular expressions, over many texts that are nearly programs.
 * Whether tokens are the beginning of a program is asked of the matcher: does more input make it match?
 */
public final class OracleTest {
    private static final String NAME = "[a-z][A-Za-z0-9_]{0,23}+\n";
    private static final String CLASS = "[A-Z][A-Za-z0-9_]{0,23}+\n";
    private static final String NUMBER = "-?[0-9]{1,10}+\n";
    private static final String TYPE = "(?:int|int\\[\\]|[A-Z][A-Za-z0-9_]{0,23}+(?:\\[\\])?)\n";
    private static final String REFERENCE = "[A-Z][A-Za-z0-9_]{0,23}+\\.[a-z][A-Za-z0-9_]{0,23}+\n";
    private static final String LINE = "(?:" + NAME + ":\n"
            + "|catch\n" + NAME + NAME + NAME + CLASS
            + "|(?:push|load|store)\n" + NUMBER
            + "|inc\n" + NUMBER + NUMBER
            + "|(?:goto|eq|ne|lt|le|gt|ge|isnull|notnull|same|other)\n" + NAME
            + "|new\n" + CLASS
            + "|array\n(?:int\n|" + CLASS + ")"
            + "|(?:get|put|call|send)\n" + REFERENCE
            + "|(?:cast|is)\n(?!int\n)" + TYPE
            + "|(?:null|dup|pop|swap|add|sub|mul|div|rem|and|or|xor|shl|shr|neg|length|aload|astore|throw|give|back"
            + "|read|write)\n)";
    private static final String MEMBER = "(?:field\n" + NAME + TYPE
            + "|(?:static|method)\n" + NAME + "\\(\n(?:" + TYPE + ")*\\)\n(?:none\n|" + TYPE + ")" + NUMBER
            + "\\{\n(?:" + LINE + ")*\\}\n)";
    private static final Pattern PROGRAM = Pattern.compile(
            "(?:class\n" + CLASS + "of\n" + CLASS + "\\{\n(?:" + MEMBER + ")*\\}\n)*");
    private static final Pattern TOKEN = Pattern.compile("[(){}:]|[^(){}: \t\r\n;]+");
    private static final Pattern REMARK = Pattern.compile(";[^\n]*");

    private static final String[] SEEDS = {
        "class A of B { field x int field y C[] }\nclass C of A { }",
        "class Main of Object { static main ( ) none 3 { read store 0 a : load 0 push -1 ge a ; remark\n inc 0 1 } }",
        "class S of T{method m(int int[] S)S[] 2{load 0 get S.x put S.y is S[] cast int[] give}field f int}",
        "class M of O { static s ( ) none 0 { catch a b c D array int new M call M.s send M.s goto push push : } }",
        "class M of O { method dup ( ) int 2147483647 { dup : dup pop swap back catch : catch : catch d e f G } }",
    };
    private static final String[] WORDS = {"(", ")", "{", "}", ":", "class", "of", "field", "static", "method", "catch",
        "int", "int[]", "none", "A", "A[]", "A.b", "a", "b", "7", "-7", "2147483648", "-2147483649", "dup", "load",
        "goto", "inc", "cast", "array", "new", "get", "wrte", "?", ";", "\n", "\u0001", "\u007F"};

    public static void main(String[] args) {
        // A fixed seed: the same texts every time.
        Random random = new Random(20261116L);
        for (String seed : SEEDS) {
            compare(new BodyText(), seed);
            for (int end = 0; end < seed.length(); end++) {
                compare(new BodyText(), seed.substring(0, end));
            }
        }
        for (int i = 0; i < 6000; i++) {
            BodyText x = new BodyText();
            compare(x, spoilt(random));
            compare(x, spoilt(random));
        }
        Check.finish();
    }

    private static String spoilt(Random random) {
        StringBuilder text = new StringBuilder(SEEDS[random.nextInt(SEEDS.length)]);
        for (int times = random.nextInt(3); times >= 0; times--) {
            int at = random.nextInt(text.length() + 1);
            String word = WORDS[random.nextInt(WORDS.length)];
            switch (random.nextInt(4)) {
                case 0 -> text.insert(at, word);
                case 1 -> text.insert(at, " " + word + " ");
                case 2 -> text.delete(at, Math.min(text.length(), at + 1 + random.nextInt(4)));
                default -> replaceToken(text, at, word);
            }
        }
        return text.toString();
    }

    private static void replaceToken(StringBuilder text, int at, String word) {
        Matcher token = TOKEN.matcher(text);
        if (token.find(at)) {
            text.replace(token.start(), token.end(), word);
        }
    }

    private static void compare(BodyText x, String text) {
        Check.give(x, text);
        int illegal = illegalAt(text);
        String clean = blankRemarks(illegal < 0 ? text : text.substring(0, illegal));
        List<String> tokens = new ArrayList<>();
        List<Integer> places = new ArrayList<>();
        Matcher matcher = TOKEN.matcher(clean);
        while (matcher.find()) {
            tokens.add(matcher.group());
            places.add(matcher.start());
            places.add(matcher.end());
        }
        int fault = illegal >= 0 ? tokens.size() : faultAt(tokens);
        Check.due("read() of \"" + text + "\"", illegal >= 0 ? 1 : fault >= 0 ? 2 : 0, x.read());
        Check.due("faultAt() of \"" + text + "\"", fault, x.faultAt());
        comparePlaces(x, text, places);
        compareParts(x, text, illegal >= 0 ? List.of() : tokens, fault);
    }

    private static void comparePlaces(BodyText x, String text, List<Integer> places) {
        Check.due("size(0) of \"" + text + "\"", places.size() / 2, x.size(0));
        for (int i = 0; i < places.size(); i++) {
            boolean end = i % 2 == 1;
            Check.due("token(" + i / 2 + ", " + end + ") of \"" + text + "\"", places.get(i), x.token(i / 2, end));
        }
    }

    private static int illegalAt(String text) {
        for (int i = 0; i < text.length(); i++) {
            if ("\t\n\r".indexOf(text.charAt(i)) < 0 && (text.charAt(i) < 32 || text.charAt(i) > 126)) {
                return i;
            }
        }
        return -1;
    }

    private static String blankRemarks(String text) {
        return REMARK.matcher(text).replaceAll(remark -> " ".repeat(remark.group().length()));
    }

    private static int faultAt(List<String> tokens) {
        StringBuilder row = new StringBuilder();
        for (int t = 0; t < tokens.size(); t++) {
            row.append(tooLarge(tokens.get(t)) ? "?" : tokens.get(t)).append('\n');
            Matcher matcher = PROGRAM.matcher(row);
            if (!matcher.matches() && !matcher.hitEnd()) {
                return t;
            }
        }
        return PROGRAM.matcher(row).matches() ? -1 : tokens.size();
    }

    private static boolean tooLarge(String word) {
        if (!word.matches("-?[0-9]{1,10}")) {
            return false;
        }
        long value = Long.parseLong(word);
        return value != (int) value;
    }

    /** Walks the tokens before the fault, which are the beginning of a program, and compares what they hold. */
    private static void compareParts(BodyText x, String text, List<String> tokens, int fault) {
        int end = fault < 0 ? tokens.size() : Math.min(fault, tokens.size());
        int classes = 0;
        int members = 0;
        int lines = 0;
        int depth = 0;
        for (int t = 0; t < end; ) {
            String word = tokens.get(t);
            if (word.equals("}")) {
                depth--;
                t++;
            } else if (depth == 0) {
                if (t + 1 < end) {
                    Check.due("classAt(" + classes + ") of \"" + text + "\"", t + 1, x.classAt(classes++));
                }
                t += 5;
                depth = 1;
            } else if (depth == 1) {
                if (t + 1 < end) {
                    Check.due("member(" + members + ") of \"" + text + "\"",
                            List.of("field", "static", "method").indexOf(word), x.member(members));
                    Check.due("memberAt(" + members + ") of \"" + text + "\"", t + 1, x.memberAt(members++));
                }
                if (word.equals("field")) {
                    t += 3;
                } else {
                    while (t < end && !tokens.get(t).equals("{")) {
                        t++;
                    }
                    t++;
                    depth = 2;
                }
            } else {
                boolean open = t + 1 == tokens.size();
                boolean label = !open && tokens.get(t + 1).equals(":");
                Check.due("lineAt(" + lines + ") of \"" + text + "\"", t, x.lineAt(lines));
                Check.due("line(" + lines + ") of \"" + text + "\"",
                        open ? -1 : label ? 0 : word.equals("catch") ? 1 : operands(word) >= 0 ? 2 : -1, x.line(lines));
                Check.due("an instruction(" + lines + ") of \"" + text + "\"",
                        !open && !label && operands(word) >= 0, x.instruction(lines++) >= 0);
                t += label ? 2 : word.equals("catch") ? 5 : 1 + Math.max(0, operands(word));
            }
        }
        Check.due("size(1) of \"" + text + "\"", classes, x.size(1));
        Check.due("size(2) of \"" + text + "\"", members, x.size(2));
        Check.due("size(3) of \"" + text + "\"", lines, x.size(3));
    }

    private static int operands(String word) {
        if (word.equals("inc")) {
            return 2;
        }
        if (word.matches("push|load|store|goto|eq|ne|lt|le|gt|ge|isnull|notnull|same|other|new|array|get|put|call|send"
                + "|cast|is")) {
            return 1;
        }
        return word.matches("null|dup|pop|swap|add|sub|mul|div|rem|and|or|xor|shl|shr|neg|length|aload|astore|throw"
                + "|give|back|read|write") ? 0 : -1;
    }
}
