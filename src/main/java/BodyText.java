import java.util.Arrays;

/** Reads the texts of programs of classes: cuts them into tokens and finds the first that fits no program. */
public final class BodyText {
    private static final int FEED_BYTES = 20;
    private static final int FED_MOST = 16000;
    private static final int ALL_MOST = 65536;

    private static final int NO_FAULT = 0;
    private static final int FAULT_OF_BYTE = 1;
    private static final int FAULT_OF_TOKEN = 2;

    private static final int NONE = -1;

    // What a token can stand for, a bit each: one word may be several (int is a name too).
    private static final int OPEN = 1;
    private static final int CLOSE = 1 << 1;
    private static final int BEGIN = 1 << 2;
    private static final int FINISH = 1 << 3;
    private static final int COLON = 1 << 4;
    private static final int NAME = 1 << 5;
    private static final int CLASS_NAME = 1 << 6;
    private static final int NUMBER = 1 << 7;
    private static final int ROW_TYPE = 1 << 8;
    private static final int REFERENCE = 1 << 9;
    private static final int FIRST_KEYWORD = 1 << 10;
    private static final int CLASS = FIRST_KEYWORD;
    private static final int OF = FIRST_KEYWORD << 1;
    private static final int FIELD = FIRST_KEYWORD << 2;
    private static final int STATIC = FIRST_KEYWORD << 3;
    private static final int METHOD = FIRST_KEYWORD << 4;
    private static final int CATCH = FIRST_KEYWORD << 5;
    private static final int INT = FIRST_KEYWORD << 6;
    private static final int NOTHING = FIRST_KEYWORD << 7;

    private static final int ELEMENT = INT | CLASS_NAME;
    private static final int TYPE = ELEMENT | ROW_TYPE;
    private static final int RESULT = TYPE | NOTHING;
    private static final int TYPE_BUT_INT = CLASS_NAME | ROW_TYPE;

    // In the order of the bits above; a blank ends each word, the last too.
    private static final String KEYWORDS = "class of field static method catch int none ";

    // In the order of their numbers; a blank ends each word, the last too.
    private static final String INSTRUCTIONS =
            "push null load store inc dup pop swap add sub mul div rem and or xor shl shr neg goto eq ne lt le gt ge isnull notnull same other new array length aload astore get put cast is call send throw give back read write ";

    private final Text fed = new Text();
    private final Text text = new Text();
    private final Tokens tokens = new Tokens(text);
    private final Program program = new Program(tokens);
    private int fedInAll = 0;
    private int faultToken = NONE;

    public BodyText() {
    }

    public int feed(int a, int b, int c, int d, int e) {
        if (fed.length > FED_MOST - FEED_BYTES || fedInAll > ALL_MOST - FEED_BYTES) {
            return NONE;
        }
        fed.addFour(a);
        fed.addFour(b);
        fed.addFour(c);
        fed.addFour(d);
        fed.addFour(e);
        fedInAll += FEED_BYTES;
        return fed.length;
    }

    public boolean end(int n) {
        if (n < 0 || n > fed.length) {
            return false;
        }
        text.takeOver(fed, n);
        return true;
    }

    public int read() {
        int fault = NO_FAULT;
        faultToken = NONE;
        program.clear();
        if (!tokens.cut()) {
            fault = FAULT_OF_BYTE;
            faultToken = tokens.count();
        } else if (!program.parse()) {
            fault = FAULT_OF_TOKEN;
            faultToken = program.at;
        }
        text.clear();
        return fault;
    }

    public int faultAt() {
        return faultToken;
    }

    public int size(int what) {
        switch (what) {
            case 0:
                return tokens.count();
            case 1:
                return program.classNames.count;
            case 2:
                return program.memberNames.count;
            case 3:
                return program.lineStarts.count;
            default:
                return NONE;
        }
    }

    public int token(int t, boolean end) {
        return end ? tokens.ends.get(t) : tokens.starts.get(t);
    }

    public int classAt(int k) {
        return program.classNames.get(k);
    }

    public int member(int k) {
        return program.memberKinds.get(k);
    }

    public int memberAt(int k) {
        return program.memberNames.get(k);
    }

    public int line(int k) {
        return program.lineKinds.get(k);
    }

    public int lineAt(int k) {
        return program.lineStarts.get(k);
    }

    public int instruction(int k) {
        return program.lineInstructions.get(k);
    }

    /** A row of ints that grows as it is filled and keeps its room when cleared. */
    private static final class Row {
        private static final int START = 16;
        // A text has at most FED_MOST bytes, so no row of it has more items.
        private static final int MOST = FED_MOST;

        private int[] items = new int[START];
        private int count = 0;

        void clear() {
            count = 0;
        }

        void add(int item) {
            if (count >= items.length && items.length < MOST) {
                items = Arrays.copyOf(items, Math.min(2 * items.length, MOST));
            }
            if (count >= 0 && count < items.length) {
                items[count] = item;
                count++;
            }
        }

        /** Item k, or NONE where there is none. */
        int get(int k) {
            return k >= 0 && k < count && k < items.length ? items[k] : NONE;
        }

        /** Whether there is an item k and it has one of the bits. */
        boolean hasAny(int k, int bits) {
            return k >= 0 && k < count && k < items.length && (items[k] & bits) != 0;
        }
    }

    /** Bytes, four to an item of a row, the highest first. */
    private static final class Text {
        private Row fours = new Row();
        private int length = 0;

        void clear() {
            fours.clear();
            length = 0;
        }

        void addFour(int bytes) {
            fours.add(bytes);
            length += 4;
        }

        /** Makes the first n bytes of another text its own; the other is left empty. */
        void takeOver(Text other, int n) {
            // The rows are swapped, not copied, so that none has to be made anew.
            Row spare = fours;
            fours = other.fours;
            length = n;
            other.fours = spare;
            other.clear();
        }

        /** Byte i, or NONE where there is none. */
        int at(int i) {
            int[] items = fours.items;
            int four = i >> 2;
            if (i < 0 || i >= length || four >= items.length) {
                return NONE;
            }
            return (items[four] >>> (24 - 8 * (i & 3))) & 255;
        }
    }

    /** The tokens of a text: where they stand, and what each can stand for. */
    private static final class Tokens {
        private static final int MOST_NAME = 24;
        private static final int MOST_DIGITS = 10;
        private static final int LINE_END = 10;

        private final Text text;
        private final Row starts = new Row();
        private final Row ends = new Row();
        private final Row kinds = new Row();
        private final Row instructions = new Row();
        private int wordStart = NONE;

        Tokens(Text text) {
            this.text = text;
        }

        int count() {
            return starts.count;
        }

        /** Cuts the text; false at a byte that no text may have, with the tokens before it cut. */
        boolean cut() {
            clear();
            boolean remark = false;
            int length = text.length;
            for (int i = 0; i < length; i++) {
                int code = text.at(i);
                if (!isAllowed(code)) {
                    endWord(i);
                    return false;
                }
                remark = code != LINE_END && (remark || code == ';');
                int sign = signKind(code);
                if (remark || isBlank(code)) {
                    endWord(i);
                } else if (sign != 0) {
                    endWord(i);
                    addToken(i, i + 1, sign, NONE);
                } else if (wordStart == NONE) {
                    wordStart = i;
                }
            }
            endWord(length);
            return true;
        }

        private void clear() {
            starts.clear();
            ends.clear();
            kinds.clear();
            instructions.clear();
            wordStart = NONE;
        }

        private void endWord(int end) {
            if (wordStart == NONE) {
                return;
            }
            if (isName(wordStart, end, 'a', 'z')) {
                addToken(wordStart, end, NAME | keywordKind(wordStart, end), placeIn(INSTRUCTIONS, wordStart, end));
            } else {
                addToken(wordStart, end, otherKinds(wordStart, end), NONE);
            }
            wordStart = NONE;
        }

        private void addToken(int start, int end, int kind, int instruction) {
            starts.add(start);
            ends.add(end);
            kinds.add(kind);
            instructions.add(instruction);
        }

        private static boolean isAllowed(int code) {
            return code == 9 || code == LINE_END || code == 13 || code >= 32 && code <= 126;
        }

        private static boolean isBlank(int code) {
            return code <= ' ';
        }

        private static int signKind(int code) {
            switch (code) {
                case '(':
                    return OPEN;
                case ')':
                    return CLOSE;
                case '{':
                    return BEGIN;
                case '}':
                    return FINISH;
                case ':':
                    return COLON;
                default:
                    return 0;
            }
        }

        private int keywordKind(int start, int end) {
            int place = placeIn(KEYWORDS, start, end);
            return place == NONE ? 0 : FIRST_KEYWORD << place;
        }

        /** What a word that is no name can stand for: no two of these at once. */
        private int otherKinds(int start, int end) {
            if (isName(start, end, 'A', 'Z')) {
                return CLASS_NAME;
            }
            if (isNumber(start, end)) {
                return NUMBER;
            }
            if (isRowType(start, end)) {
                return ROW_TYPE;
            }
            return isReference(start, end) ? REFERENCE : 0;
        }

        /** Whether it is a name that begins with a letter from low to high. */
        private boolean isName(int start, int end, int low, int high) {
            if (end <= start || end - start > MOST_NAME || text.at(start) < low || text.at(start) > high) {
                return false;
            }
            for (int i = start + 1; i < end; i++) {
                if (!isNamePart(text.at(i))) {
                    return false;
                }
            }
            return true;
        }

        private static boolean isNamePart(int code) {
            return code >= 'a' && code <= 'z' || code >= 'A' && code <= 'Z'
                    || code >= '0' && code <= '9' || code == '_';
        }

        private static boolean isDigit(int code) {
            return code >= '0' && code <= '9';
        }

        private boolean isNumber(int start, int end) {
            boolean minus = text.at(start) == '-';
            int digits = minus ? start + 1 : start;
            if (end <= digits || end - digits > MOST_DIGITS) {
                return false;
            }
            long value = 0;
            for (int i = digits; i < end; i++) {
                int code = text.at(i);
                if (!isDigit(code)) {
                    return false;
                }
                value = 10 * value + (code - '0');
            }
            return value <= (minus ? 2147483648L : 2147483647L);
        }

        private boolean isRowType(int start, int end) {
            int behind = end - 2;
            if (behind <= start || text.at(behind) != '[' || text.at(behind + 1) != ']') {
                return false;
            }
            return isName(start, behind, 'A', 'Z') || isPart("int", 0, 3, start, behind);
        }

        private boolean isReference(int start, int end) {
            for (int i = start; i < end; i++) {
                if (text.at(i) == '.') {
                    return isName(start, i, 'A', 'Z') && isName(i + 1, end, 'a', 'z');
                }
            }
            return false;
        }

        /** The place of a word of the text in a list of words that each end with a blank, or NONE. */
        private int placeIn(String list, int start, int end) {
            int place = 0;
            int listStart = 0;
            for (int i = 0; i < list.length(); i++) {
                if (list.charAt(i) == ' ') {
                    if (isPart(list, listStart, i, start, end)) {
                        return place;
                    }
                    place++;
                    listStart = i + 1;
                }
            }
            return NONE;
        }

        /** Whether the word of the text is the part of the list from listStart to before listEnd. */
        private boolean isPart(String list, int listStart, int listEnd, int start, int end) {
            if (listStart < 0 || listEnd > list.length() || listEnd - listStart != end - start) {
                return false;
            }
            for (int i = listStart; i < listEnd; i++) {
                if (list.charAt(i) != text.at(start + (i - listStart))) {
                    return false;
                }
            }
            return true;
        }
    }

    /** The classes, members and lines of the tokens, up to the first token that fits no program. */
    private static final class Program {
        private static final int OUTSIDE = 0;
        private static final int IN_CLASS = 1;
        private static final int IN_ROUTINE = 2;

        private static final int KIND_FIELD = 0;
        private static final int KIND_STATIC = 1;
        private static final int KIND_METHOD = 2;

        private static final int KIND_LABEL = 0;
        private static final int KIND_CATCH = 1;
        private static final int KIND_INSTRUCTION = 2;

        private static final int INC = 4;

        // What the first operand of each instruction must be, 0 where it has none.
        private static final int[] OPERANDS = {
            // push null load store inc, dup pop swap
            NUMBER, 0, NUMBER, NUMBER, NUMBER, 0, 0, 0,
            // add sub mul div rem and or xor shl shr neg
            0, 0, 0, 0, 0, 0, 0, 0, 0, 0, 0,
            // goto eq ne lt le gt ge isnull notnull same other
            NAME, NAME, NAME, NAME, NAME, NAME, NAME, NAME, NAME, NAME, NAME,
            // new array length aload astore get put
            CLASS_NAME, ELEMENT, 0, 0, 0, REFERENCE, REFERENCE,
            // cast is call send throw give back read write
            TYPE_BUT_INT, TYPE_BUT_INT, REFERENCE, REFERENCE, 0, 0, 0, 0, 0,
        };

        private final Tokens tokens;
        private final Row classNames = new Row();
        private final Row memberKinds = new Row();
        private final Row memberNames = new Row();
        private final Row lineKinds = new Row();
        private final Row lineStarts = new Row();
        private final Row lineInstructions = new Row();
        private int at = 0;
        private int level = OUTSIDE;

        Program(Tokens tokens) {
            this.tokens = tokens;
        }

        void clear() {
            classNames.clear();
            memberKinds.clear();
            memberNames.clear();
            lineKinds.clear();
            lineStarts.clear();
            lineInstructions.clear();
            at = 0;
            level = OUTSIDE;
        }

        /** Takes the tokens one by one; false if they are no program, and then at is the token of the fault. */
        boolean parse() {
            int count = tokens.count();
            // Every step takes a token or fails, so there are no more steps than tokens.
            for (int i = 0; i <= count; i++) {
                if (level == OUTSIDE && at >= count) {
                    return true;
                }
                if (!takePart()) {
                    return false;
                }
            }
            return false;
        }

        private boolean takePart() {
            if (level == OUTSIDE) {
                return takeClassHead();
            }
            if (take(FINISH)) {
                level--;
                return true;
            }
            return level == IN_CLASS ? takeMember() : takeLine();
        }

        private boolean take(int wanted) {
            if (!tokens.kinds.hasAny(at, wanted)) {
                return false;
            }
            at++;
            return true;
        }

        private boolean takeClassHead() {
            if (!take(CLASS) || !take(CLASS_NAME)) {
                return false;
            }
            classNames.add(at - 1);
            if (!take(OF) || !take(CLASS_NAME) || !take(BEGIN)) {
                return false;
            }
            level = IN_CLASS;
            return true;
        }

        private boolean takeMember() {
            int kind = memberKind();
            if (!take(FIELD | STATIC | METHOD) || !take(NAME)) {
                return false;
            }
            memberKinds.add(kind);
            memberNames.add(at - 1);
            return kind == KIND_FIELD ? take(TYPE) : takeRoutineHead();
        }

        private int memberKind() {
            if (tokens.kinds.hasAny(at, FIELD)) {
                return KIND_FIELD;
            }
            return tokens.kinds.hasAny(at, STATIC) ? KIND_STATIC : KIND_METHOD;
        }

        private boolean takeRoutineHead() {
            if (!take(OPEN)) {
                return false;
            }
            boolean more = true;
            int count = tokens.count();
            for (int i = at; i < count && more; i++) {
                more = take(TYPE);
            }
            if (!take(CLOSE) || !take(RESULT) || !take(NUMBER) || !take(BEGIN)) {
                return false;
            }
            level = IN_ROUTINE;
            return true;
        }

        private boolean takeLine() {
            int first = at;
            if (!take(NAME)) {
                return false;
            }
            // A colon makes any name a label, so it is looked for before the name is understood.
            if (take(COLON)) {
                addLine(first, KIND_LABEL, NONE);
                return true;
            }
            // Where the text ends a colon might still have come, so the kind stays open.
            if (at >= tokens.count()) {
                addLine(first, NONE, NONE);
                return false;
            }
            if (tokens.kinds.hasAny(first, CATCH)) {
                addLine(first, KIND_CATCH, NONE);
                return take(NAME) && take(NAME) && take(NAME) && take(CLASS_NAME);
            }
            int number = tokens.instructions.get(first);
            addLine(first, number == NONE ? NONE : KIND_INSTRUCTION, number);
            return takeOperands(number);
        }

        private void addLine(int first, int kind, int number) {
            lineStarts.add(first);
            lineKinds.add(kind);
            lineInstructions.add(number);
        }

        private boolean takeOperands(int number) {
            if (number < 0 || number >= OPERANDS.length) {
                return false;
            }
            int operand = OPERANDS[number];
            return (operand == 0 || take(operand)) && (number != INC || take(NUMBER));
        }
    }
}
