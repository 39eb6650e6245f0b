import java.util.Arrays;

/**
 * A reader of texts of a small language like C: it tells where a text is none, or what is wrong
 * with its meaning first, and writes a right text in its plain form.
 *
 * <p>A read goes through these steps: Tokens cuts the tape, Grammar and Expressions make a Tree
 * of the tokens, Meaning goes through the tree once, and Plain writes it.
 */
public final class HomeReader {
    public static final int NONE = -1;

    private static final int TAPE = 32768;
    private static final int FED = 20;
    private static final int MOST_AGAIN = 4096;

    private static final int LONGEST_NAME = 24;
    private static final int LONGEST_NUMBER = 10;
    private static final int LONGEST_HEX = 8;
    private static final int LONGEST_STRING = 200;
    private static final int MOST_OPEN = 60;
    private static final int MOST_SIZE = 4096;
    private static final int MOST_WORDS = 8192;
    private static final int MOST_FUNCTIONS = 200;
    private static final int FIRST_WORDS = 4;

    // The least that a function takes of a text is nine bytes, int a(){}, a parameter six, int a,.
    private static final int NODE_ROOM = TAPE + 2;
    private static final int NAME_ROOM = TAPE / 2 + 64;
    private static final int FUNCTION_ROOM = TAPE / 8 + 32;
    private static final int PARAMETER_ROOM = TAPE / 4 + 64;
    // Two bytes of a text make 15 of its plain form (C, in { C, C, .. } with a long k); only the names
    // of an enum with one letter or two make more, and there are too few of them to come to 8 for each.
    private static final int PLAIN_ROOM = 8 * TAPE;
    // What is OPEN keeps a tree flatter than this; see Expressions.
    private static final int DEEPEST = 80;

    // Kinds of tokens. The keywords are in the order of WORDS, the marks in that of MARKS.
    private static final int END = 0;
    private static final int BAD = 1;
    private static final int NAME = 2;
    private static final int NUMBER = 3;
    private static final int STRING = 4;

    private static final int FIRST_KEYWORD = 10;
    private static final int INT = 10;
    private static final int CHAR = 11;
    private static final int VOID = 12;
    private static final int ENUM = 13;
    private static final int IF = 14;
    private static final int ELSE = 15;
    private static final int WHILE = 16;
    private static final int DO = 17;
    private static final int FOR = 18;
    private static final int SWITCH = 19;
    private static final int CASE = 20;
    private static final int DEFAULT = 21;
    private static final int BREAK = 22;
    private static final int CONTINUE = 23;
    private static final int RETURN = 24;

    private static final int FIRST_MARK = 30;
    private static final int LEFT_PAREN = 30;
    private static final int RIGHT_PAREN = 31;
    private static final int LEFT_BRACE = 32;
    private static final int RIGHT_BRACE = 33;
    private static final int LEFT_BRACKET = 34;
    private static final int RIGHT_BRACKET = 35;
    private static final int COMMA = 36;
    private static final int SEMICOLON = 37;
    private static final int COLON = 38;
    private static final int QUESTION = 39;
    private static final int EQUALS = 40;
    private static final int LAST_ASSIGNING = 50;
    private static final int FIRST_BETWEEN = 51;
    private static final int OR_OR = 51;
    private static final int AND_AND = 52;
    private static final int OR = 53;
    private static final int XOR = 54;
    private static final int AND = 55;
    private static final int SAME = 56;
    private static final int OTHER = 57;
    private static final int LESS = 58;
    private static final int MORE = 59;
    private static final int AT_MOST = 60;
    private static final int AT_LEAST = 61;
    private static final int SHIFT_LEFT = 62;
    private static final int SHIFT_RIGHT = 63;
    private static final int PLUS = 64;
    private static final int MINUS = 65;
    private static final int TIMES = 66;
    private static final int OVER = 67;
    private static final int REST = 68;
    private static final int NOT = 69;
    private static final int FLIP = 70;
    private static final int UP = 71;
    private static final int DOWN = 72;

    // A mark is told by its bytes, the first one highest.
    private static final int[] MARKS = {
        '(', ')', '{', '}', '[', ']', ',', ';', ':', '?',
        '=', '+' << 8 | '=', '-' << 8 | '=', '*' << 8 | '=', '/' << 8 | '=', '%' << 8 | '=',
        '<' << 16 | '<' << 8 | '=', '>' << 16 | '>' << 8 | '=',
        '&' << 8 | '=', '|' << 8 | '=', '^' << 8 | '=',
        '|' << 8 | '|', '&' << 8 | '&', '|', '^', '&',
        '=' << 8 | '=', '!' << 8 | '=', '<', '>', '<' << 8 | '=', '>' << 8 | '=',
        '<' << 8 | '<', '>' << 8 | '>', '+', '-', '*', '/', '%',
        '!', '~', '+' << 8 | '+', '-' << 8 | '-'
    };

    // The sorts of the operators between two, from OR_OR on; a higher one binds closer.
    private static final int[] SORTS = {1, 2, 3, 4, 5, 6, 6, 7, 7, 7, 7, 8, 8, 9, 9, 10, 10, 10};

    // A blank behind each; main and the functions that are there already come behind the keywords.
    private static final String WORDS = "int char void enum if else while do for switch case default break continue return main len put send recv more spawn wait get set end load store control setcontrol host ";
    private static final int KEYWORDS = 15;
    private static final int MAIN = 16;
    private static final int FIRST_BUILT_IN = 17;
    private static final int BUILT_IN = 10;
    private static final int SYSTEM_BUILT_IN = 15;

    // Kinds of nodes; those of a statement or a leaf that one token tells are that token's kind.
    private static final int FIRST_MADE = 80;
    private static final int CALL = 80;
    private static final int ELEMENT = 81;
    private static final int UNARY = 82;
    private static final int STEP_BEFORE = 83;
    private static final int STEP_BEHIND = 84;
    private static final int CHAIN = 85;
    private static final int CHOICE = 86;
    private static final int ASSIGNMENT = 87;
    private static final int CONSTANT = 88;
    private static final int LAST_MADE = 88;
    private static final int TEXT = 90;
    private static final int FUNCTION = 91;
    private static final int PARAMETER = 92;
    private static final int BODY = 93;
    private static final int BLOCK = 94;
    private static final int DECLARATION = 95;
    private static final int VARIABLE = 96;
    private static final int ARRAY = 97;
    private static final int LIST = 98;
    private static final int ENUM_NAME = 99;
    private static final int WORK = 100;
    private static final int EMPTY = 101;
    private static final int ABSENT = 102;

    // What a name is declared as, and what an argument is to be (0: anything).
    private static final int FIXED = 1;
    private static final int ONE_INT = 2;
    private static final int ONE_CHAR = 3;
    private static final int INTS = 4;
    private static final int CHARS = 5;
    private static final int ANY_ARRAY = 6;
    private static final int ONE_K = 7;

    // What an expression is: INTS or CHARS, or one of these. SOME_CALL is that of no function.
    private static final int VALUE = 10;
    private static final int PLACE = 11;
    private static final int NOTHING = 12;
    private static final int UNKNOWN = 13;
    private static final int SOME_CALL = 14;

    // How far an expression is a k; the greater of its parts' tells from NOT_RECKONED on.
    private static final int RECKONED = 0;
    private static final int BY_ZERO = 1;
    private static final int NOT_RECKONED = 2;
    private static final int NO_K = 3;

    // Of each function that is there already its type and what its arguments are to be.
    private static final int BUILT_IN_WIDTH = 4;
    private static final int[] BUILT_IN_ROWS = {
        INT, ANY_ARRAY, 0, 0,
        VOID, ONE_INT, 0, 0,
        VOID, ONE_INT, ONE_INT, 0,
        INT, ONE_INT, 0, 0,
        INT, ONE_INT, 0, 0,
        INT, ONE_INT, ONE_INT, 0,
        INT, ONE_INT, 0, 0,
        VOID, ONE_INT, INTS, 0,
        VOID, ONE_INT, INTS, 0,
        VOID, ONE_INT, 0, 0,
        INT, ONE_INT, 0, 0,
        VOID, ONE_INT, ONE_INT, 0,
        INT, ONE_K, 0, 0,
        VOID, ONE_K, ONE_INT, 0,
        INT, ONE_INT, ONE_INT, ONE_INT
    };

    private final byte[] tape;
    private final Tokens tokens;
    private final Cursor cursor;
    private final Grammar grammar;
    private final Known known;
    private final Meaning meaning;
    private final Plain plain;
    private int size;
    private int told;
    private boolean right;

    public HomeReader() {
        byte[] bytes = new byte[TAPE];
        Tree tree = new Tree();
        Tokens cut = new Tokens(bytes);
        Cursor start = new Cursor(cut);
        Known nothing = new Known();
        tape = bytes;
        tokens = cut;
        cursor = start;
        grammar = new Grammar(start, tree);
        known = nothing;
        meaning = new Meaning(cut, tree, nothing);
        plain = new Plain(bytes, cut, tree);
        size = 0;
        told = 0;
        right = false;
    }

    public void feed(int a, int b, int c, int d, int e) throws IllegalStateException {
        if (size > TAPE - FED) {
            throw new IllegalStateException();
        }
        lay(a);
        lay(b);
        lay(c);
        lay(d);
        lay(e);
    }

    public void end(int n) throws IllegalArgumentException {
        if (n < 0 || n > size) {
            throw new IllegalArgumentException();
        }
        size = n;
    }

    public int read(boolean system) {
        int bytes = size;
        size = 0;
        right = false;
        told = 0;
        plain.clear();
        tokens.cut(bytes);
        try {
            grammar.text();
        } catch (IllegalStateException none) {
            told = tokens.placeOf(cursor.at);
            return NONE;
        }
        meaning.judge(system);
        if (known.wrong != 0) {
            told = tokens.placeOf(known.wrongToken);
            return known.wrong;
        }
        plain.text();
        right = true;
        return 0;
    }

    public int place() {
        return told;
    }

    public int functions() {
        return right ? known.functions - known.builtIn : 0;
    }

    public int function(int f, int what) throws IndexOutOfBoundsException {
        if (f < 0 || f >= functions() || what < 0 || what > 3) {
            throw new IndexOutOfBoundsException();
        }
        int function = known.builtIn + f;
        switch (what) {
            case 0:
                return tokens.placeOf(at(known.functionToken, function));
            case 1:
                return at(known.arguments, function);
            case 2:
                return at(known.frame, function);
            default:
                return at(known.type, function) - INT;
        }
    }

    public int words() {
        return right ? meaning.textWords : 0;
    }

    public int length() {
        return plain.count;
    }

    public int letter(int i) throws IndexOutOfBoundsException {
        if (i < 0 || i >= plain.count || i >= plain.letters.length) {
            throw new IndexOutOfBoundsException();
        }
        return plain.letters[i];
    }

    public int mark() {
        return plain.sum;
    }

    public boolean again() {
        if (!right || plain.count > MOST_AGAIN) {
            return false;
        }
        System.arraycopy(plain.letters, 0, tape, 0, plain.count);
        size = plain.count;
        return true;
    }

    private void lay(int four) {
        for (int shift = 24; shift >= 0 && size < tape.length; shift -= 8) {
            tape[size] = (byte) (four >>> shift);
            size++;
        }
    }

    /** The number at a place of a row, 0 where the row has no such place. */
    private static int at(int[] row, int place) {
        return place >= 0 && place < row.length ? row[place] : 0;
    }

    private static void put(int[] row, int place, int number) {
        if (place >= 0 && place < row.length) {
            row[place] = number;
        }
    }

    /** Gives each name one number, from 1 on: the keywords, main, those that are there, the text's. */
    private static final class Names {
        private final byte[] letters = new byte[TAPE + 256];
        private final int[] from = new int[NAME_ROOM];
        private final int[] to = new int[NAME_ROOM];
        private final int[] chain = new int[NAME_ROOM];
        private final int[] heads = new int[1024];
        private int used;
        private int count;

        /** Leaves only WORDS. */
        void forget() {
            Arrays.fill(heads, 0);
            count = 1;
            used = 0;
            int start = 0;
            for (int i = 0; i < WORDS.length() && i < letters.length; i++) {
                letters[i] = (byte) WORDS.charAt(i);
                if (letters[i] == ' ') {
                    link(start, i, bucket(letters, start, i));
                    start = i + 1;
                }
            }
            used = WORDS.length();
        }

        /** The number of the name that stands there; a new one has the greatest. */
        int numberOf(byte[] source, int start, int stop) {
            int bucket = bucket(source, start, stop);
            int name = at(heads, bucket);
            for (int turn = 0; turn < NAME_ROOM && name != 0; turn++) {
                if (isThat(name, source, start, stop)) {
                    return name;
                }
                name = at(chain, name);
            }
            int begin = used;
            for (int i = start; i >= 0 && i < stop && i < source.length; i++) {
                if (used < letters.length) {
                    letters[used] = source[i];
                    used++;
                }
            }
            return link(begin, used, bucket);
        }

        private int link(int start, int stop, int bucket) {
            int name = count;
            if (count < NAME_ROOM - 1) {
                count++;
            }
            put(from, name, start);
            put(to, name, stop);
            put(chain, name, at(heads, bucket));
            put(heads, bucket, name);
            return name;
        }

        private int bucket(byte[] source, int start, int stop) {
            int sum = 0;
            for (int i = start; i < stop && i >= 0 && i < source.length; i++) {
                sum = 31 * sum + source[i];
            }
            return sum & 1023;
        }

        private boolean isThat(int name, byte[] source, int start, int stop) {
            int begin = at(from, name);
            int many = stop - start;
            if (at(to, name) - begin != many || begin < 0 || begin + many > letters.length
                || start < 0 || stop > source.length) {
                return false;
            }
            for (int i = 0; i < many; i++) {
                if (letters[begin + i] != source[start + i]) {
                    return false;
                }
            }
            return true;
        }
    }

    /** Cuts the tape into tokens, up to its end or the first one that can't stand at all. */
    private static final class Tokens {
        private final byte[] tape;
        private final Names names = new Names();
        final int[] kind = new int[TAPE + 1];
        final int[] start = new int[TAPE + 1];
        final int[] stop = new int[TAPE + 1];
        final int[] value = new int[TAPE + 1];
        int count;
        private int size;
        private int foundKind;
        private int foundValue;

        Tokens(byte[] bytes) {
            tape = bytes;
        }

        int placeOf(int token) {
            return at(start, token) + 1;
        }

        int nameCount() {
            return names.count;
        }

        /** The last token is END, or BAD. */
        void cut(int bytes) {
            size = bytes;
            count = 0;
            names.forget();
            int from = behindBlanks(0);
            for (int turn = 0; turn < TAPE && from < size; turn++) {
                int to = behindToken(from);
                if (to <= from) {
                    add(BAD, 0, from, from);
                    return;
                }
                add(foundKind, foundValue, from, to);
                from = behindBlanks(to);
            }
            add(END, 0, size, size);
        }

        private void add(int itsKind, int itsValue, int from, int to) {
            put(kind, count, itsKind);
            put(value, count, itsValue);
            put(start, count, from);
            put(stop, count, to);
            count++;
        }

        private int byteAt(int i) {
            return i >= 0 && i < size && i < tape.length ? tape[i] & 255 : -1;
        }

        private int behindBlanks(int from) {
            int to = from;
            for (int turn = 0; turn <= TAPE; turn++) {
                int next = behindBlank(to);
                if (next == to) {
                    return to;
                }
                to = next;
            }
            return to;
        }

        /** A comment without an end is passed over by nobody, so that it is cut as a token. */
        private int behindBlank(int from) {
            int sign = byteAt(from);
            if (sign == ' ' || sign == 9 || sign == 10 || sign == 13) {
                return from + 1;
            }
            if (sign != '/') {
                return from;
            }
            int second = byteAt(from + 1);
            if (second == '/') {
                return behindLine(from + 2);
            }
            return second == '*' ? behindComment(from) : from;
        }

        private int behindLine(int from) {
            for (int i = from; i < size; i++) {
                if (byteAt(i) == 10) {
                    return i;
                }
            }
            return size;
        }

        private int behindComment(int from) {
            for (int i = from + 2; i + 1 < size; i++) {
                if (byteAt(i) == '*' && byteAt(i + 1) == '/') {
                    return i + 2;
                }
            }
            return from;
        }

        /** Where the token at from ends; from itself where none can stand. */
        private int behindToken(int from) {
            int sign = byteAt(from);
            if (isLetter(sign)) {
                return behindWord(from);
            }
            if (isDigit(sign)) {
                boolean hex = sign == '0' && byteAt(from + 1) == 'x';
                return hex ? behindHex(from) : behindNumber(from);
            }
            if (sign == '\'') {
                return behindCharacter(from);
            }
            return sign == '"' ? behindString(from) : behindMark(from);
        }

        private int behindWord(int from) {
            int to = from + 1;
            while (to < size && (isLetter(byteAt(to)) || isDigit(byteAt(to)))) {
                to++;
            }
            if (to - from > LONGEST_NAME) {
                return from;
            }
            foundValue = names.numberOf(tape, from, to);
            foundKind = foundValue <= KEYWORDS ? FIRST_KEYWORD + foundValue - 1 : NAME;
            return to;
        }

        private int behindNumber(int from) {
            long sum = 0;
            int to = from;
            while (to < size && isDigit(byteAt(to))) {
                if (to - from >= LONGEST_NUMBER) {
                    return from;
                }
                sum = 10 * sum + byteAt(to) - '0';
                to++;
            }
            foundKind = NUMBER;
            foundValue = (int) sum;
            return sum > 0xFFFFFFFFL ? from : to;
        }

        private int behindHex(int from) {
            int sum = 0;
            int to = from + 2;
            while (to < size && figure(byteAt(to)) >= 0) {
                sum = sum << 4 | figure(byteAt(to));
                to++;
            }
            int many = to - from - 2;
            foundKind = NUMBER;
            foundValue = sum;
            return many < 1 || many > LONGEST_HEX ? from : to;
        }

        private int behindCharacter(int from) {
            int to = behindLetter(from + 1, '\'');
            foundKind = NUMBER;
            return to > from + 1 && byteAt(to) == '\'' ? to + 1 : from;
        }

        private int behindString(int from) {
            int many = 0;
            int to = from + 1;
            boolean more = true;
            for (int turn = 0; turn <= LONGEST_STRING && more; turn++) {
                int next = behindLetter(to, '"');
                more = next > to;
                many += more ? 1 : 0;
                to = next;
            }
            foundKind = STRING;
            foundValue = many;
            return byteAt(to) == '"' && many <= LONGEST_STRING ? to + 1 : from;
        }

        /** Where the one letter at from ends, between two of quote; from itself where none stands. */
        private int behindLetter(int from, int quote) {
            int sign = byteAt(from);
            foundValue = sign;
            if (sign < 32 || sign > 126 || sign == quote) {
                return from;
            }
            if (sign != '\\') {
                return from + 1;
            }
            int escaped = byteAt(from + 1);
            foundValue = escaped == 'n' ? 10 : escaped == '0' ? 0 : escaped;
            boolean known = escaped == 'n' || escaped == '0' || escaped == '\\' || escaped == quote;
            return known ? from + 2 : from;
        }

        private int behindMark(int from) {
            if (byteAt(from) == '/' && byteAt(from + 1) == '*') {
                return from;
            }
            for (int width = 3; width > 0; width--) {
                int mark = markOf(from, width);
                if (mark >= 0) {
                    foundKind = FIRST_MARK + mark;
                    foundValue = 0;
                    return from + width;
                }
            }
            return from;
        }

        private int markOf(int from, int width) {
            int bytes = 0;
            for (int i = 0; i < width; i++) {
                int sign = byteAt(from + i);
                // A byte 0 ahead of a mark would not show in the sum.
                if (sign <= 0) {
                    return -1;
                }
                bytes = bytes << 8 | sign;
            }
            for (int mark = 0; mark < MARKS.length; mark++) {
                if (MARKS[mark] == bytes) {
                    return mark;
                }
            }
            return -1;
        }

        private static boolean isLetter(int sign) {
            return sign >= 'a' && sign <= 'z' || sign >= 'A' && sign <= 'Z' || sign == '_';
        }

        private static boolean isDigit(int sign) {
            return sign >= '0' && sign <= '9';
        }

        private static int figure(int sign) {
            if (isDigit(sign)) {
                return sign - '0';
            }
            if (sign >= 'a' && sign <= 'f') {
                return sign - 'a' + 10;
            }
            return sign >= 'A' && sign <= 'F' ? sign - 'A' + 10 : -1;
        }
    }

    /** Goes through the tokens, counts what is OPEN, and throws at the token that can't stand. */
    private static final class Cursor {
        private final Tokens tokens;
        int at;
        int kind;
        private int opened;

        Cursor(Tokens theTokens) {
            tokens = theTokens;
        }

        void begin() {
            at = 0;
            opened = 0;
            kind = kindAhead(0);
        }

        int kindAhead(int many) {
            int token = at + many;
            return token < tokens.count ? at(tokens.kind, token) : END;
        }

        /** Goes behind the token that is there and answers its number. */
        int step() {
            int token = at;
            if (at + 1 < tokens.count && at + 1 < tokens.kind.length) {
                at++;
                kind = tokens.kind[at];
            }
            return token;
        }

        int take(int wanted) {
            if (kind != wanted) {
                throw new IllegalStateException();
            }
            return step();
        }

        boolean skip(int wanted) {
            if (kind != wanted) {
                return false;
            }
            step();
            return true;
        }

        void refuse() {
            throw new IllegalStateException();
        }

        int open(int wanted) {
            if (kind != wanted || opened >= MOST_OPEN) {
                throw new IllegalStateException();
            }
            opened++;
            return step();
        }

        /** Opens an operator that takes something of that depth on its left. */
        int openBehind(int depth) {
            if (opened + depth >= MOST_OPEN) {
                throw new IllegalStateException();
            }
            opened++;
            return step();
        }

        /** As openBehind, but nothing stays OPEN behind the operator. */
        int passBehind(int depth) {
            if (opened + depth >= MOST_OPEN) {
                throw new IllegalStateException();
            }
            return step();
        }

        void close() {
            opened--;
        }

        void shut(int wanted) {
            if (kind != wanted) {
                throw new IllegalStateException();
            }
            opened--;
            step();
        }
    }

    /** The nodes of a text, as rows; 0 is no node. */
    private static final class Tree {
        final int[] kind = new int[NODE_ROOM];
        final int[] token = new int[NODE_ROOM];
        // Of an expression: its first token, with brackets and + about it.
        final int[] first = new int[NODE_ROOM];
        // Of an expression behind a unary +: the first token of what the + has, and 1.
        final int[] plus = new int[NODE_ROOM];
        final int[] child = new int[NODE_ROOM];
        final int[] last = new int[NODE_ROOM];
        final int[] next = new int[NODE_ROOM];
        // The operator's token ahead of an operand of a chain.
        final int[] sign = new int[NODE_ROOM];
        final int[] depth = new int[NODE_ROOM];
        final int[] height = new int[NODE_ROOM];
        final int[] value = new int[NODE_ROOM];
        // Of a chain its sort of operators until it is judged, then what it is.
        final int[] type = new int[NODE_ROOM];
        final int[] state = new int[NODE_ROOM];
        int count = 1;

        void clear() {
            count = 1;
        }

        int add(int itsKind, int itsToken) {
            int node = count;
            if (node >= NODE_ROOM) {
                return 0;
            }
            count++;
            kind[node] = itsKind;
            token[node] = itsToken;
            first[node] = itsToken;
            plus[node] = 0;
            child[node] = 0;
            last[node] = 0;
            next[node] = 0;
            sign[node] = 0;
            depth[node] = 1;
            height[node] = 1;
            value[node] = 0;
            type[node] = 0;
            state[node] = 0;
            return node;
        }

        void adopt(int parent, int part) {
            if (parent <= 0 || parent >= NODE_ROOM || part <= 0 || part >= NODE_ROOM) {
                return;
            }
            int before = last[parent];
            if (before > 0 && before < NODE_ROOM) {
                next[before] = part;
            } else {
                child[parent] = part;
            }
            last[parent] = part;
            depth[parent] = Math.max(depth[parent], depth[part] + 1);
        }
    }

    /**
     * Makes the tree of an expression. Brackets and unary + make no node of their own, and a chain
     * of operators of one sort is one node, so that a tree is as deep as the DEPTH says; what is
     * OPEN and that depth bound together how deep all who go through the tree have to go.
     */
    private static final class Expressions {
        private final Cursor cursor;
        private final Tokens tokens;
        private final Tree tree;

        Expressions(Cursor theCursor, Tree theTree) {
            cursor = theCursor;
            tokens = theCursor.tokens;
            tree = theTree;
        }

        /** An e, or, where it may not assign, a c. */
        private int expression(boolean assigns) {
            int left = unary();
            if (assigns && cursor.kind >= EQUALS && cursor.kind <= LAST_ASSIGNING) {
                return assignment(left);
            }
            int chain = chains(left, 1);
            return cursor.kind == QUESTION ? choice(chain) : chain;
        }

        private int assignment(int left) {
            int node = tree.add(ASSIGNMENT, cursor.openBehind(at(tree.depth, left)));
            put(tree.first, node, at(tree.first, left));
            tree.adopt(node, left);
            tree.adopt(node, expression(true));
            cursor.close();
            return node;
        }

        private int choice(int left) {
            int node = tree.add(CHOICE, cursor.openBehind(at(tree.depth, left)));
            put(tree.first, node, at(tree.first, left));
            tree.adopt(node, left);
            tree.adopt(node, expression(true));
            cursor.take(COLON);
            tree.adopt(node, expression(false));
            cursor.close();
            return node;
        }

        /** Takes on all operators of that sort or a closer one. */
        private int chains(int left, int loosest) {
            int made = left;
            int sort = sortOf(cursor.kind);
            for (int turn = 0; turn <= TAPE && sort >= loosest; turn++) {
                int token = cursor.openBehind(at(tree.depth, made));
                int operand = chains(unary(), sort + 1);
                cursor.close();
                made = chained(made, sort, token, operand);
                sort = sortOf(cursor.kind);
            }
            return made;
        }

        private int chained(int left, int sort, int token, int right) {
            int node = left;
            if (at(tree.kind, left) != CHAIN || at(tree.type, left) != sort) {
                node = tree.add(CHAIN, token);
                put(tree.type, node, sort);
                put(tree.first, node, at(tree.first, left));
                tree.adopt(node, left);
            }
            put(tree.sign, right, token);
            tree.adopt(node, right);
            return node;
        }

        private int unary() {
            int kind = cursor.kind;
            if (kind != PLUS && kind != MINUS && (kind < NOT || kind > DOWN)) {
                return behind(kind == NAME ? named(cursor.step()) : primary());
            }
            int token = cursor.open(kind);
            int operand = unary();
            cursor.close();
            if (kind == PLUS) {
                return plussed(token, operand);
            }
            int node = tree.add(kind == UP || kind == DOWN ? STEP_BEFORE : UNARY, token);
            tree.adopt(node, operand);
            return node;
        }

        /** The innermost + is kept: what it makes of its operand is a number for the others. */
        private int plussed(int token, int operand) {
            if (at(tree.plus, operand) == 0) {
                put(tree.plus, operand, at(tree.first, operand) + 1);
            }
            put(tree.first, operand, token);
            return operand;
        }

        private int behind(int operand) {
            if (cursor.kind != UP && cursor.kind != DOWN) {
                return operand;
            }
            int node = tree.add(STEP_BEHIND, cursor.passBehind(at(tree.depth, operand)));
            put(tree.first, node, at(tree.first, operand));
            tree.adopt(node, operand);
            return node;
        }

        private int primary() {
            if (cursor.kind == NUMBER) {
                int token = cursor.step();
                int node = tree.add(NUMBER, token);
                put(tree.value, node, at(tokens.value, token));
                return node;
            }
            int token = cursor.open(LEFT_PAREN);
            int node = expression(true);
            cursor.shut(RIGHT_PAREN);
            put(tree.first, node, token);
            return node;
        }

        private int named(int name) {
            if (cursor.kind == LEFT_BRACKET) {
                int element = tree.add(ELEMENT, name);
                cursor.open(LEFT_BRACKET);
                tree.adopt(element, expression(true));
                cursor.shut(RIGHT_BRACKET);
                return element;
            }
            if (cursor.kind != LEFT_PAREN) {
                return tree.add(NAME, name);
            }
            int call = tree.add(CALL, name);
            cursor.open(LEFT_PAREN);
            boolean more = cursor.kind != RIGHT_PAREN;
            for (int turn = 0; turn <= TAPE && more; turn++) {
                tree.adopt(call, expression(true));
                more = cursor.skip(COMMA);
            }
            cursor.shut(RIGHT_PAREN);
            return call;
        }

        private static int sortOf(int kind) {
            return at(SORTS, kind - FIRST_BETWEEN);
        }
    }

    /** Makes the tree of a text. */
    private static final class Grammar {
        private final Cursor cursor;
        private final Tree tree;
        private final Expressions expressions;

        Grammar(Cursor theCursor, Tree theTree) {
            cursor = theCursor;
            tree = theTree;
            expressions = new Expressions(theCursor, theTree);
        }

        void text() {
            tree.clear();
            cursor.begin();
            int text = tree.add(TEXT, 0);
            for (int turn = 0; turn <= TAPE && cursor.kind != END; turn++) {
                if (cursor.kind == ENUM) {
                    tree.adopt(text, enumeration());
                } else if (cursor.kind == VOID || cursor.kindAhead(2) == LEFT_PAREN) {
                    int function = header();
                    tree.adopt(function, block(BODY));
                    tree.adopt(text, function);
                } else {
                    tree.adopt(text, declaration());
                }
            }
        }

        private int enumeration() {
            int node = tree.add(ENUM, cursor.take(ENUM));
            cursor.open(LEFT_BRACE);
            boolean more = true;
            for (int turn = 0; turn <= TAPE && more; turn++) {
                int name = tree.add(ENUM_NAME, cursor.take(NAME));
                if (cursor.skip(EQUALS)) {
                    tree.adopt(name, expressions.expression(false));
                }
                tree.adopt(node, name);
                more = cursor.skip(COMMA);
            }
            cursor.shut(RIGHT_BRACE);
            cursor.take(SEMICOLON);
            return node;
        }

        /** A function up to its block. */
        private int header() {
            int type = cursor.kind;
            if (type != INT && type != CHAR && type != VOID) {
                cursor.refuse();
            }
            cursor.step();
            int function = tree.add(FUNCTION, cursor.take(NAME));
            put(tree.type, function, type);
            cursor.open(LEFT_PAREN);
            if (cursor.kind != RIGHT_PAREN && !cursor.skip(VOID)) {
                parameters(function);
            }
            cursor.shut(RIGHT_PAREN);
            return function;
        }

        private void parameters(int function) {
            boolean more = true;
            for (int turn = 0; turn <= TAPE && more; turn++) {
                int type = cursor.kind;
                if (type != INT && type != CHAR) {
                    cursor.refuse();
                }
                cursor.step();
                int parameter = tree.add(PARAMETER, cursor.take(NAME));
                boolean array = cursor.skip(LEFT_BRACKET);
                if (array) {
                    cursor.take(RIGHT_BRACKET);
                }
                put(tree.type, parameter, sortOf(type, array));
                tree.adopt(function, parameter);
                more = cursor.skip(COMMA);
            }
        }

        private static int sortOf(int type, boolean array) {
            if (type == INT) {
                return array ? INTS : ONE_INT;
            }
            return array ? CHARS : ONE_CHAR;
        }

        private int declaration() {
            int type = cursor.kind;
            if (type != INT && type != CHAR) {
                cursor.refuse();
            }
            int node = tree.add(DECLARATION, cursor.step());
            boolean more = true;
            for (int turn = 0; turn <= TAPE && more; turn++) {
                boolean array = cursor.kindAhead(1) == LEFT_BRACKET;
                int variable = array ? array() : variable();
                put(tree.type, variable, sortOf(type, array));
                tree.adopt(node, variable);
                more = cursor.skip(COMMA);
            }
            cursor.take(SEMICOLON);
            return node;
        }

        private int variable() {
            int node = tree.add(VARIABLE, cursor.take(NAME));
            if (cursor.skip(EQUALS)) {
                tree.adopt(node, expressions.expression(true));
            }
            return node;
        }

        private int array() {
            int node = tree.add(ARRAY, cursor.take(NAME));
            cursor.open(LEFT_BRACKET);
            tree.adopt(node, expressions.expression(false));
            cursor.shut(RIGHT_BRACKET);
            if (!cursor.skip(EQUALS)) {
                return node;
            }
            if (cursor.kind == STRING) {
                tree.adopt(node, tree.add(STRING, cursor.step()));
                return node;
            }
            int list = tree.add(LIST, cursor.open(LEFT_BRACE));
            boolean more = true;
            for (int turn = 0; turn <= TAPE && more; turn++) {
                tree.adopt(list, expressions.expression(false));
                more = cursor.skip(COMMA);
            }
            cursor.shut(RIGHT_BRACE);
            tree.adopt(node, list);
            return node;
        }

        private int block(int kind) {
            int node = tree.add(kind, cursor.open(LEFT_BRACE));
            for (int turn = 0; turn <= TAPE && cursor.kind != RIGHT_BRACE; turn++) {
                tree.adopt(node, statement());
            }
            cursor.shut(RIGHT_BRACE);
            return node;
        }

        private int statement() {
            switch (cursor.kind) {
                case LEFT_BRACE:
                    return block(BLOCK);
                case SEMICOLON:
                    return tree.add(EMPTY, cursor.step());
                case INT:
                case CHAR:
                    return declaration();
                case IF:
                    return branch();
                case WHILE:
                    return loop();
                case DO:
                    return turned();
                case FOR:
                    return counted();
                case SWITCH:
                    return switched();
                case BREAK:
                case CONTINUE:
                    return jump();
                case RETURN:
                    return answer();
                default:
                    return work();
            }
        }

        private int branch() {
            int node = tree.add(IF, cursor.open(IF));
            condition(node);
            tree.adopt(node, statement());
            if (cursor.skip(ELSE)) {
                tree.adopt(node, statement());
            }
            cursor.close();
            return node;
        }

        private void condition(int node) {
            cursor.open(LEFT_PAREN);
            tree.adopt(node, expressions.expression(true));
            cursor.shut(RIGHT_PAREN);
        }

        private int loop() {
            int node = tree.add(WHILE, cursor.open(WHILE));
            condition(node);
            tree.adopt(node, statement());
            cursor.close();
            return node;
        }

        private int turned() {
            int node = tree.add(DO, cursor.open(DO));
            tree.adopt(node, statement());
            cursor.take(WHILE);
            condition(node);
            cursor.take(SEMICOLON);
            cursor.close();
            return node;
        }

        private int counted() {
            int node = tree.add(FOR, cursor.open(FOR));
            cursor.open(LEFT_PAREN);
            if (cursor.kind == SEMICOLON) {
                tree.adopt(node, tree.add(EMPTY, cursor.step()));
            } else {
                boolean declares = cursor.kind == INT || cursor.kind == CHAR;
                tree.adopt(node, declares ? declaration() : work());
            }
            tree.adopt(node, cursor.kind == SEMICOLON ? absent() : expressions.expression(true));
            cursor.take(SEMICOLON);
            tree.adopt(node, cursor.kind == RIGHT_PAREN ? absent() : worked());
            cursor.shut(RIGHT_PAREN);
            tree.adopt(node, statement());
            cursor.close();
            return node;
        }

        private int absent() {
            return tree.add(ABSENT, cursor.at);
        }

        private int switched() {
            int node = tree.add(SWITCH, cursor.open(SWITCH));
            condition(node);
            cursor.open(LEFT_BRACE);
            boolean labelled = false;
            for (int turn = 0; turn <= TAPE && cursor.kind != RIGHT_BRACE; turn++) {
                if (cursor.kind == CASE || cursor.kind == DEFAULT) {
                    tree.adopt(node, label());
                    labelled = true;
                } else if (labelled) {
                    tree.adopt(node, statement());
                } else {
                    cursor.refuse();
                }
            }
            cursor.shut(RIGHT_BRACE);
            cursor.close();
            return node;
        }

        private int label() {
            int kind = cursor.kind;
            int node = tree.add(kind, cursor.step());
            if (kind == CASE) {
                tree.adopt(node, expressions.expression(false));
            }
            cursor.take(COLON);
            return node;
        }

        private int jump() {
            int node = tree.add(cursor.kind, cursor.at);
            cursor.step();
            cursor.take(SEMICOLON);
            return node;
        }

        private int answer() {
            int node = tree.add(RETURN, cursor.step());
            if (cursor.kind != SEMICOLON) {
                tree.adopt(node, expressions.expression(true));
            }
            cursor.take(SEMICOLON);
            return node;
        }

        private int work() {
            int node = worked();
            cursor.take(SEMICOLON);
            return node;
        }

        private int worked() {
            int node = tree.add(WORK, cursor.at);
            tree.adopt(node, expressions.expression(true));
            return node;
        }
    }

    /** What names stand for at a place of the text, its functions, and what is wrong first. */
    private static final class Known {
        // Things are variables and names of enum, the newest last; 0 is none.
        final int[] thingOf = new int[NAME_ROOM];
        final int[] sort = new int[NAME_ROOM];
        final int[] value = new int[NAME_ROOM];
        private final int[] name = new int[NAME_ROOM];
        private final int[] hidden = new int[NAME_ROOM];
        private final int[] level = new int[NAME_ROOM];
        private int things;
        // How many scopes are about the place, that of the text not counted.
        int depth;
        // The function of a name, and 1; 0 is none.
        final int[] functionOf = new int[NAME_ROOM];
        final int[] functionToken = new int[FUNCTION_ROOM];
        final int[] type = new int[FUNCTION_ROOM];
        final int[] arguments = new int[FUNCTION_ROOM];
        final int[] firstArgument = new int[FUNCTION_ROOM];
        final int[] frame = new int[FUNCTION_ROOM];
        final int[] wanted = new int[PARAMETER_ROOM];
        private int wantedCount;
        int functions;
        int builtIn;
        int wrong;
        int wrongToken;

        /** The text has names of a number below that. */
        void begin(boolean system, int names) {
            int used = Math.min(names, NAME_ROOM);
            Arrays.fill(thingOf, 0, used, 0);
            Arrays.fill(functionOf, 0, used, 0);
            things = 1;
            depth = 0;
            functions = 0;
            wantedCount = 0;
            wrong = 0;
            wrongToken = 0;
            builtIn = system ? SYSTEM_BUILT_IN : BUILT_IN;
            for (int row = 0; row < builtIn; row++) {
                int from = row * BUILT_IN_WIDTH;
                addFunction(FIRST_BUILT_IN + row, 0, at(BUILT_IN_ROWS, from));
                for (int i = 1; i < BUILT_IN_WIDTH; i++) {
                    addArgument(at(BUILT_IN_ROWS, from + i));
                }
            }
        }

        /** Of two functions of one name the first one is called by it. */
        void addFunction(int itsName, int token, int itsType) {
            put(functionToken, functions, token);
            put(type, functions, itsType);
            put(arguments, functions, 0);
            put(firstArgument, functions, wantedCount);
            functions++;
            if (at(functionOf, itsName) == 0) {
                put(functionOf, itsName, functions);
            }
        }

        /** One more for the newest function; 0 is none. */
        void addArgument(int itsSort) {
            if (itsSort == 0) {
                return;
            }
            put(wanted, wantedCount, itsSort);
            wantedCount++;
            put(arguments, functions - 1, at(arguments, functions - 1) + 1);
        }

        void enter() {
            depth++;
        }

        void leave() {
            for (int thing = things - 1; thing > 0 && at(level, thing) == depth; thing--) {
                put(thingOf, at(name, thing), at(hidden, thing));
                things = thing;
            }
            depth--;
        }

        /** Answers whether the name was not known in the innermost scope. */
        boolean declare(int itsName, int itsSort, int itsValue) {
            int before = at(thingOf, itsName);
            put(name, things, itsName);
            put(sort, things, itsSort);
            put(value, things, itsValue);
            put(level, things, depth);
            put(hidden, things, before);
            put(thingOf, itsName, things);
            things++;
            return before == 0 || at(level, before) != depth;
        }

        /** Of all that is told the first in the order of tokens stays, at one token the least. */
        void tell(int token, int number) {
            if (wrong == 0 || token < wrongToken || token == wrongToken && number < wrong) {
                wrong = number;
                wrongToken = token;
            }
        }
    }

    /** Tells of an expression, when its parts are judged, what it is and its HEIGHT. */
    private static final class Values {
        private final Tokens tokens;
        private final Tree tree;
        private final Known known;

        Values(Tokens theTokens, Tree theTree, Known theKnown) {
            tokens = theTokens;
            tree = theTree;
            known = theKnown;
        }

        void judge(int node) {
            int kind = at(tree.kind, node);
            int type = VALUE;
            if (kind == NAME) {
                type = name(node);
            } else if (kind == ELEMENT) {
                type = element(node);
            } else if (kind == CALL) {
                type = call(node);
            } else if (kind == ASSIGNMENT) {
                assignment(node);
            } else if (kind == STEP_BEFORE || kind == STEP_BEHIND) {
                int part = at(tree.child, node);
                wantPlace(part);
                put(tree.height, node, at(tree.height, part));
            } else if (kind != NUMBER) {
                operands(node, kind == CHAIN ? 1 : 0);
            }
            put(tree.type, node, type);
            int plus = at(tree.plus, node);
            if (plus != 0) {
                wantNumber(node, plus - 1);
                put(tree.type, node, VALUE);
            }
        }

        /** A number is wanted; where it is an array, that is told at the place. */
        void wantNumber(int node, int place) {
            int type = at(tree.type, node);
            if (type == INTS || type == CHARS) {
                known.tell(place, 3);
            } else if (type == NOTHING) {
                known.tell(at(tree.token, node), 5);
            }
        }

        /** A k is wanted; answers whether its value is known, and it is written as one number. */
        boolean constant(int node) {
            int state = at(tree.state, node);
            if (state == NO_K || state == BY_ZERO) {
                known.tell(at(tree.first, node), 7);
            }
            put(tree.kind, node, CONSTANT);
            return state == RECKONED;
        }

        private void wantPlace(int node) {
            int type = at(tree.type, node);
            if (type == INTS || type == CHARS) {
                known.tell(at(tree.first, node), 3);
            } else if (type != PLACE && type != UNKNOWN) {
                known.tell(at(tree.first, node), 6);
            }
        }

        private int name(int node) {
            int token = at(tree.token, node);
            int thing = at(known.thingOf, at(tokens.value, token));
            if (thing == 0) {
                known.tell(token, 2);
                return UNKNOWN;
            }
            int sort = at(known.sort, thing);
            if (sort == INTS || sort == CHARS) {
                return sort;
            }
            return sort == FIXED ? VALUE : PLACE;
        }

        private int element(int node) {
            int index = at(tree.child, node);
            wantNumber(index, at(tree.first, index));
            put(tree.height, node, at(tree.height, index));
            int token = at(tree.token, node);
            int name = at(tokens.value, token);
            int thing = at(known.thingOf, name);
            int sort = at(known.sort, thing);
            if (thing == 0 && at(known.functionOf, name) == 0) {
                known.tell(token, 2);
            } else if (thing == 0 || sort != INTS && sort != CHARS) {
                known.tell(token, 3);
            }
            return PLACE;
        }

        private int call(int node) {
            int token = at(tree.token, node);
            int name = at(tokens.value, token);
            int function = at(known.functionOf, name) - 1;
            boolean none = function < 0 || at(known.thingOf, name) != 0;
            int many = none ? 0 : at(known.arguments, function);
            int from = at(known.firstArgument, function);
            int height = 1;
            int before = 0;
            int count = 0;
            int part = at(tree.child, node);
            for (int turn = 0; turn <= TAPE && part != 0; turn++) {
                int wanted = count < many ? at(known.wanted, from + count) : 0;
                argument(part, wanted);
                boolean array = wanted == INTS || wanted == CHARS || wanted == ANY_ARRAY;
                int own = array ? 2 : wanted == ONE_K ? 1 : at(tree.height, part);
                height = Math.max(height, own + before);
                before += array ? 2 : 1;
                count++;
                part = at(tree.next, part);
            }
            put(tree.height, node, height);
            if (none || count != many) {
                known.tell(token, none ? 2 : 4);
            }
            if (none) {
                return SOME_CALL;
            }
            return at(known.type, function) == VOID ? NOTHING : VALUE;
        }

        private void argument(int node, int wanted) {
            int type = at(tree.type, node);
            if (wanted == INTS || wanted == CHARS || wanted == ANY_ARRAY) {
                boolean array = type == INTS || type == CHARS;
                boolean other = array ? wanted != ANY_ARRAY && wanted != type
                    : type != UNKNOWN && type != SOME_CALL;
                if (other) {
                    known.tell(at(tree.first, node), 3);
                }
            } else if (wanted != 0) {
                wantNumber(node, at(tree.first, node));
                if (wanted == ONE_K) {
                    constant(node);
                }
            }
        }

        private void assignment(int node) {
            int target = at(tree.child, node);
            int given = at(tree.next, target);
            wantPlace(target);
            wantNumber(given, at(tree.first, given));
            int height = at(tree.height, given);
            if (at(tree.kind, target) == ELEMENT) {
                height = Math.max(at(tree.height, target), height + 1);
            }
            put(tree.height, node, height);
        }

        /** All parts are to be numbers; those behind the first need so many more. */
        private void operands(int node, int more) {
            int part = at(tree.child, node);
            int height = at(tree.height, part);
            for (int turn = 0; turn <= TAPE && part != 0; turn++) {
                wantNumber(part, at(tree.first, part));
                height = Math.max(height, at(tree.height, part) + (turn > 0 ? more : 0));
                part = at(tree.next, part);
            }
            put(tree.height, node, height);
        }
    }

    /** Reckons an expression, when its parts are reckoned, as far as it is a k. */
    private static final class Reckoner {
        private final Tokens tokens;
        private final Tree tree;
        private final Known known;

        Reckoner(Tokens theTokens, Tree theTree, Known theKnown) {
            tokens = theTokens;
            tree = theTree;
            known = theKnown;
        }

        void reckon(int node) {
            int kind = at(tree.kind, node);
            if (kind == NUMBER) {
                return;
            }
            if (kind == NAME) {
                name(node);
                return;
            }
            boolean operators = kind == UNARY || kind == CHAIN || kind == CHOICE;
            int worst = operators ? worstOf(node) : NO_K;
            if (worst >= NOT_RECKONED) {
                put(tree.state, node, worst);
            } else if (kind == UNARY) {
                unary(node);
            } else if (kind == CHAIN) {
                chain(node);
            } else {
                choice(node);
            }
        }

        private int worstOf(int node) {
            int worst = RECKONED;
            int part = at(tree.child, node);
            for (int turn = 0; turn <= TAPE && part != 0; turn++) {
                worst = Math.max(worst, at(tree.state, part));
                part = at(tree.next, part);
            }
            return worst;
        }

        private void name(int node) {
            int thing = at(known.thingOf, at(tokens.value, at(tree.token, node)));
            boolean fixed = at(known.sort, thing) == FIXED;
            if (thing == 0) {
                put(tree.state, node, NOT_RECKONED);
            } else {
                put(tree.state, node, fixed ? RECKONED : NO_K);
                put(tree.value, node, at(known.value, thing));
            }
        }

        private void unary(int node) {
            int part = at(tree.child, node);
            int number = at(tree.value, part);
            int kind = at(tokens.kind, at(tree.token, node));
            int made = kind == MINUS ? -number : ~number;
            if (kind == NOT) {
                made = number == 0 ? 1 : 0;
            }
            put(tree.state, node, at(tree.state, part));
            put(tree.value, node, made);
        }

        private void choice(int node) {
            int asked = at(tree.child, node);
            int second = at(tree.next, asked);
            int chosen = at(tree.value, asked) != 0 ? second : at(tree.next, second);
            boolean lost = at(tree.state, asked) == BY_ZERO;
            put(tree.state, node, lost ? BY_ZERO : at(tree.state, chosen));
            put(tree.value, node, at(tree.value, chosen));
        }

        /** What an && or || does not go on to can't divide by 0. */
        private void chain(int node) {
            int part = at(tree.child, node);
            int sum = at(tree.value, part);
            boolean lost = at(tree.state, part) == BY_ZERO;
            part = at(tree.next, part);
            for (int turn = 0; turn <= TAPE && part != 0 && !lost; turn++) {
                int kind = at(tokens.kind, at(tree.sign, part));
                if (kind == AND_AND && sum == 0 || kind == OR_OR && sum != 0) {
                    sum = kind == OR_OR ? 1 : 0;
                } else {
                    int number = at(tree.value, part);
                    boolean divides = kind == OVER || kind == REST;
                    lost = at(tree.state, part) == BY_ZERO || divides && number == 0;
                    sum = divides ? divided(kind, sum, number) : joined(kind, sum, number);
                }
                part = at(tree.next, part);
            }
            put(tree.state, node, lost ? BY_ZERO : RECKONED);
            put(tree.value, node, sum);
        }

        private static int divided(int kind, int left, int right) {
            if (right == 0) {
                return 0;
            }
            return kind == OVER ? left / right : left % right;
        }

        private static int joined(int kind, int left, int right) {
            switch (kind) {
                case OR:
                    return left | right;
                case XOR:
                    return left ^ right;
                case AND:
                    return left & right;
                case SHIFT_LEFT:
                    return left << right;
                case SHIFT_RIGHT:
                    return left >> right;
                case PLUS:
                    return left + right;
                case MINUS:
                    return left - right;
                case TIMES:
                    return left * right;
                default:
                    return holds(kind, left, right) ? 1 : 0;
            }
        }

        private static boolean holds(int kind, int left, int right) {
            switch (kind) {
                case SAME:
                    return left == right;
                case OTHER:
                    return left != right;
                case LESS:
                    return left < right;
                case MORE:
                    return left > right;
                case AT_MOST:
                    return left <= right;
                case AT_LEAST:
                    return left >= right;
                default:
                    // An && or || comes here where its right one alone tells.
                    return right != 0;
            }
        }
    }

    /** Goes through a tree once, each part before what it is a part of, and tells what is wrong. */
    private static final class Meaning {
        private final Tokens tokens;
        private final Tree tree;
        private final Known known;
        private final Values values;
        private final Reckoner reckoner;
        int textWords;
        private int function;
        private int words;
        private int highest;
        private int loops;
        private int switches;
        private int nextFixed;

        Meaning(Tokens theTokens, Tree theTree, Known theKnown) {
            tokens = theTokens;
            tree = theTree;
            known = theKnown;
            values = new Values(theTokens, theTree, theKnown);
            reckoner = new Reckoner(theTokens, theTree, theKnown);
        }

        void judge(boolean system) {
            known.begin(system, tokens.nameCount());
            textWords = 0;
            loops = 0;
            switches = 0;
            headers();
            function = known.builtIn - 1;
            walk(1, 0);
            whole();
        }

        /** Functions are known in the whole text, so that their headers come ahead of all. */
        private void headers() {
            int item = at(tree.child, 1);
            for (int turn = 0; turn <= TAPE && item != 0; turn++) {
                if (at(tree.kind, item) == FUNCTION) {
                    known.addFunction(nameOf(item), at(tree.token, item), at(tree.type, item));
                    parameters(item);
                }
                item = at(tree.next, item);
            }
        }

        private void parameters(int item) {
            int part = at(tree.child, item);
            for (int turn = 0; turn <= TAPE && at(tree.kind, part) == PARAMETER; turn++) {
                known.addArgument(at(tree.type, part));
                part = at(tree.next, part);
            }
        }

        private int nameOf(int node) {
            return at(tokens.value, at(tree.token, node));
        }

        private void walk(int node, int deep) {
            if (deep > DEEPEST) {
                return;
            }
            before(node);
            int part = at(tree.child, node);
            for (int turn = 0; turn <= TAPE && part != 0; turn++) {
                walk(part, deep + 1);
                part = at(tree.next, part);
            }
            int kind = at(tree.kind, node);
            if (isExpression(kind)) {
                values.judge(node);
                reckoner.reckon(node);
            } else if (kind < FIRST_MADE) {
                behindStatement(node, kind);
            } else {
                behind(node, kind);
            }
        }

        private static boolean isExpression(int kind) {
            return kind == NUMBER || kind == NAME || kind >= FIRST_MADE && kind <= LAST_MADE;
        }

        private void before(int node) {
            int kind = at(tree.kind, node);
            if (kind == ENUM) {
                nextFixed = 0;
            } else if (kind == FUNCTION) {
                beforeFunction(node);
            } else if (kind == BLOCK || kind == FOR || kind == SWITCH) {
                known.enter();
            } else if (kind == BREAK && loops + switches == 0 || kind == CONTINUE && loops == 0) {
                known.tell(at(tree.token, node), 9);
            }
            loops += kind == WHILE || kind == DO || kind == FOR ? 1 : 0;
            switches += kind == SWITCH ? 1 : 0;
        }

        private void beforeFunction(int node) {
            function++;
            if (at(known.functionOf, nameOf(node)) != function + 1) {
                known.tell(at(tree.token, node), 1);
            }
            known.enter();
            words = FIRST_WORDS;
            highest = 0;
        }

        private void behindStatement(int node, int kind) {
            int part = at(tree.child, node);
            if (kind == IF || kind == WHILE || kind == SWITCH) {
                worked(part);
            } else if (kind == DO) {
                worked(at(tree.next, part));
            } else if (kind == FOR && at(tree.kind, at(tree.next, part)) != ABSENT) {
                worked(at(tree.next, part));
            } else if (kind == RETURN) {
                answer(node, part);
            } else if (kind == CASE) {
                values.wantNumber(part, at(tree.first, part));
                values.constant(part);
            }
            if (kind == SWITCH) {
                labels(node);
            }
            if (kind == FOR || kind == SWITCH) {
                known.leave();
            }
            loops -= kind == WHILE || kind == DO || kind == FOR ? 1 : 0;
            switches -= kind == SWITCH ? 1 : 0;
        }

        private void behind(int node, int kind) {
            switch (kind) {
                case FUNCTION:
                    put(known.frame, function, words + highest);
                    known.leave();
                    break;
                case BLOCK:
                    known.leave();
                    break;
                case PARAMETER:
                    int sort = at(tree.type, node);
                    declare(node, sort, 0, sort == INTS || sort == CHARS ? 2 : 1);
                    break;
                case VARIABLE:
                    variable(node);
                    break;
                case ARRAY:
                    array(node);
                    break;
                case LIST:
                    list(node);
                    break;
                case ENUM_NAME:
                    fixed(node);
                    break;
                case WORK:
                    work(at(tree.child, node));
                    break;
                default:
                    break;
            }
        }

        /** A whole e, that is to be a number. */
        private void worked(int node) {
            values.wantNumber(node, at(tree.first, node));
            highest = Math.max(highest, at(tree.height, node));
        }

        private void work(int node) {
            if (at(tree.type, node) != NOTHING) {
                values.wantNumber(node, at(tree.first, node));
            }
            highest = Math.max(highest, at(tree.height, node));
        }

        private void answer(int node, int given) {
            boolean empty = at(known.type, function) == VOID;
            if (empty != (given == 0)) {
                known.tell(at(tree.token, node), 11);
            }
            if (given != 0) {
                worked(given);
            }
        }

        private void labels(int node) {
            boolean others = false;
            int part = at(tree.child, node);
            for (int turn = 0; turn <= TAPE && part != 0; turn++) {
                boolean other = at(tree.kind, part) == DEFAULT;
                boolean twice = other ? others : wasThere(node, part);
                if (twice) {
                    known.tell(at(tree.token, part), 10);
                }
                others = others || other;
                part = at(tree.next, part);
            }
        }

        private boolean wasThere(int node, int label) {
            int k = at(tree.child, label);
            if (at(tree.kind, label) != CASE || at(tree.state, k) != RECKONED) {
                return false;
            }
            int part = at(tree.child, node);
            for (int turn = 0; turn <= TAPE && part != 0 && part != label; turn++) {
                int other = at(tree.child, part);
                if (at(tree.kind, part) == CASE && at(tree.state, other) == RECKONED
                    && at(tree.value, other) == at(tree.value, k)) {
                    return true;
                }
                part = at(tree.next, part);
            }
            return false;
        }

        private void declare(int node, int sort, int number, int itsWords) {
            if (known.depth == 0) {
                textWords += itsWords;
            } else {
                words += itsWords;
            }
            int name = nameOf(node);
            boolean fresh = known.declare(name, sort, number);
            if (!fresh || known.depth == 0 && at(known.functionOf, name) != 0) {
                known.tell(at(tree.token, node), 1);
            }
        }

        private void fixed(int node) {
            int k = at(tree.child, node);
            if (k != 0) {
                values.wantNumber(k, at(tree.first, k));
                values.constant(k);
                nextFixed = at(tree.value, k);
            }
            put(tree.value, node, nextFixed);
            declare(node, FIXED, nextFixed, 0);
            nextFixed++;
        }

        private void variable(int node) {
            int given = at(tree.child, node);
            if (given != 0 && known.depth == 0) {
                values.wantNumber(given, at(tree.first, given));
                values.constant(given);
            } else if (given != 0) {
                worked(given);
            }
            declare(node, at(tree.type, node), 0, 1);
        }

        private void array(int node) {
            int k = at(tree.child, node);
            values.wantNumber(k, at(tree.first, k));
            boolean sure = values.constant(k);
            int many = at(tree.value, k);
            if (sure && (many < 1 || many > MOST_SIZE)) {
                known.tell(at(tree.first, k), 8);
                sure = false;
            }
            int sort = at(tree.type, node);
            int given = at(tree.next, k);
            if (sure && isTooMuch(given, sort, many)) {
                known.tell(at(tree.token, given), 8);
            }
            int itsWords = sort == INTS ? many : (many + 3) / 4;
            declare(node, sort, 0, sure ? itsWords : 0);
        }

        private boolean isTooMuch(int given, int sort, int many) {
            if (at(tree.kind, given) == STRING) {
                int letters = at(tokens.value, at(tree.token, given));
                return sort == INTS || letters + 1 > many;
            }
            int count = 0;
            int part = at(tree.child, given);
            for (int turn = 0; turn <= TAPE && part != 0; turn++) {
                count++;
                part = at(tree.next, part);
            }
            return count > many;
        }

        private void list(int node) {
            int part = at(tree.child, node);
            for (int turn = 0; turn <= TAPE && part != 0; turn++) {
                values.wantNumber(part, at(tree.first, part));
                values.constant(part);
                part = at(tree.next, part);
            }
        }

        /** What is told behind all tokens. */
        private void whole() {
            int end = tokens.count - 1;
            int main = at(known.functionOf, MAIN) - 1;
            boolean due = main >= 0 && at(known.type, main) == INT && at(known.arguments, main) == 1
                && at(known.wanted, at(known.firstArgument, main)) == ONE_INT;
            if (!due) {
                known.tell(end, 12);
            }
            for (int i = known.builtIn; i < known.functions; i++) {
                if (at(known.frame, i) > MOST_WORDS) {
                    known.tell(end, 13);
                }
            }
            if (known.functions - known.builtIn > MOST_FUNCTIONS || textWords > MOST_WORDS) {
                known.tell(end, 14);
            }
        }
    }

    /** Writes a right text's tree in its plain form. */
    private static final class Plain {
        final byte[] letters = new byte[PLAIN_ROOM];
        int count;
        int sum;
        private final byte[] tape;
        private final Tokens tokens;
        private final Tree tree;

        Plain(byte[] bytes, Tokens theTokens, Tree theTree) {
            tape = bytes;
            tokens = theTokens;
            tree = theTree;
        }

        void clear() {
            count = 0;
            sum = 0;
        }

        void text() {
            clear();
            parts(1, 0);
        }

        private void add(int letter) {
            if (count < letters.length) {
                letters[count] = (byte) letter;
                count++;
                sum = 31 * sum + letter;
            }
        }

        private void blank() {
            if (count > 0) {
                add(' ');
            }
        }

        private void word(String word) {
            blank();
            for (int i = 0; i < word.length(); i++) {
                add(word.charAt(i));
            }
        }

        private void token(int token) {
            blank();
            int stop = at(tokens.stop, token);
            for (int i = at(tokens.start, token); i >= 0 && i < stop && i < tape.length; i++) {
                add(tape[i]);
            }
        }

        private void number(long number) {
            blank();
            boolean begun = false;
            for (long power = 1000000000L; power > 0; power /= 10) {
                int figure = (int) (number / power % 10);
                begun = begun || figure != 0 || power == 1;
                if (begun) {
                    add('0' + figure);
                }
            }
        }

        private void constant(int node) {
            long number = at(tree.value, node);
            if (number < 0) {
                word("-");
            }
            number(Math.abs(number));
        }

        private void parts(int node, int deep) {
            int part = at(tree.child, node);
            for (int turn = 0; turn <= TAPE && part != 0; turn++) {
                write(part, deep + 1);
                part = at(tree.next, part);
            }
        }

        /** The parts from that one on, with a comma between two. */
        private void listed(int first, int deep) {
            int part = first;
            for (int turn = 0; turn <= TAPE && part != 0; turn++) {
                if (turn > 0) {
                    word(",");
                }
                write(part, deep + 1);
                part = at(tree.next, part);
            }
        }

        private void write(int node, int deep) {
            if (deep > DEEPEST) {
                return;
            }
            int kind = at(tree.kind, node);
            if (kind == NUMBER || kind == NAME || kind >= FIRST_MADE && kind <= LAST_MADE) {
                expression(node, kind, deep);
            } else if (kind < FIRST_MADE) {
                statement(node, kind, deep);
            } else {
                other(node, kind, deep);
            }
        }

        private void expression(int node, int kind, int deep) {
            int part = at(tree.child, node);
            if (kind == CONSTANT) {
                constant(node);
            } else if (kind == NUMBER) {
                number(at(tree.value, node) & 0xFFFFFFFFL);
            } else if (kind == NAME) {
                token(at(tree.token, node));
            } else if (kind == CALL || kind == ELEMENT) {
                token(at(tree.token, node));
                word(kind == CALL ? "(" : "[");
                listed(part, deep);
                word(kind == CALL ? ")" : "]");
            } else {
                word("(");
                inside(node, kind, deep);
                word(")");
            }
        }

        private void inside(int node, int kind, int deep) {
            int part = at(tree.child, node);
            int second = at(tree.next, part);
            if (kind == UNARY || kind == STEP_BEFORE) {
                token(at(tree.token, node));
            }
            write(part, deep + 1);
            if (kind == CHAIN) {
                operands(second, deep);
            } else if (kind == CHOICE) {
                word("?");
                write(second, deep + 1);
                word(":");
                write(at(tree.next, second), deep + 1);
            } else if (kind == ASSIGNMENT || kind == STEP_BEHIND) {
                token(at(tree.token, node));
            }
            if (kind == ASSIGNMENT) {
                write(second, deep + 1);
            }
        }

        private void operands(int first, int deep) {
            int part = first;
            for (int turn = 0; turn <= TAPE && part != 0; turn++) {
                token(at(tree.sign, part));
                write(part, deep + 1);
                part = at(tree.next, part);
            }
        }

        private void statement(int node, int kind, int deep) {
            int part = at(tree.child, node);
            if (kind == STRING) {
                token(at(tree.token, node));
            } else if (kind == ENUM) {
                word("enum");
                word("{");
                listed(part, deep);
                word("}");
                word(";");
            } else if (kind == DO) {
                turned(part, deep);
            } else if (kind == FOR) {
                counted(part, deep);
            } else if (kind == CASE || kind == DEFAULT) {
                token(at(tree.token, node));
                parts(node, deep);
                word(":");
            } else if (kind == BREAK || kind == CONTINUE || kind == RETURN) {
                token(at(tree.token, node));
                parts(node, deep);
                word(";");
            } else {
                asked(node, kind, deep);
            }
        }

        private void condition(int node, int deep) {
            word("(");
            write(node, deep + 1);
            word(")");
        }

        /** An if, a while or a switch. */
        private void asked(int node, int kind, int deep) {
            token(at(tree.token, node));
            int part = at(tree.child, node);
            condition(part, deep);
            if (kind == SWITCH) {
                word("{");
            }
            part = at(tree.next, part);
            for (int turn = 0; turn <= TAPE && part != 0; turn++) {
                if (kind == IF && turn == 1) {
                    word("else");
                }
                write(part, deep + 1);
                part = at(tree.next, part);
            }
            if (kind == SWITCH) {
                word("}");
            }
        }

        private void turned(int body, int deep) {
            word("do");
            write(body, deep + 1);
            word("while");
            condition(at(tree.next, body), deep);
            word(";");
        }

        private void counted(int first, int deep) {
            int second = at(tree.next, first);
            int third = at(tree.next, second);
            word("for");
            word("(");
            write(first, deep + 1);
            write(second, deep + 1);
            word(";");
            parts(third, deep);
            word(")");
            write(at(tree.next, third), deep + 1);
        }

        private void other(int node, int kind, int deep) {
            int part = at(tree.child, node);
            if (kind == FUNCTION) {
                header(node, deep);
            } else if (kind == PARAMETER) {
                parameter(node);
            } else if (kind == BODY || kind == BLOCK) {
                word("{");
                parts(node, deep);
                word("}");
            } else if (kind == DECLARATION) {
                token(at(tree.token, node));
                listed(part, deep);
                word(";");
            } else if (kind == VARIABLE || kind == ARRAY || kind == ENUM_NAME) {
                declared(node, kind, deep);
            } else if (kind == LIST) {
                word("{");
                listed(part, deep);
                word("}");
            } else if (kind == WORK || kind == EMPTY) {
                parts(node, deep);
                word(";");
            }
        }

        /** The type stands one token ahead of the name. */
        private void header(int node, int deep) {
            int token = at(tree.token, node);
            token(token - 1);
            token(token);
            word("(");
            int part = at(tree.child, node);
            if (at(tree.kind, part) != PARAMETER) {
                word("void");
            }
            for (int turn = 0; turn <= TAPE && at(tree.kind, part) == PARAMETER; turn++) {
                if (turn > 0) {
                    word(",");
                }
                write(part, deep + 1);
                part = at(tree.next, part);
            }
            word(")");
            write(part, deep + 1);
        }

        private void parameter(int node) {
            int token = at(tree.token, node);
            int sort = at(tree.type, node);
            token(token - 1);
            token(token);
            if (sort == INTS || sort == CHARS) {
                word("[");
                word("]");
            }
        }

        private void declared(int node, int kind, int deep) {
            int given = at(tree.child, node);
            token(at(tree.token, node));
            if (kind == ARRAY) {
                word("[");
                write(given, deep + 1);
                word("]");
                given = at(tree.next, given);
            }
            if (kind == ENUM_NAME) {
                word("=");
                constant(node);
            } else if (given != 0) {
                word("=");
                write(given, deep + 1);
            }
        }
    }
}
