/**
 * Promises 1 to 3 and 6 to 12 at their bounds: the last call that is allowed, the first that is
 * refused, and that a refused one changes nothing.
 */
public final class CallEdgesTest {
    private static final String RIGHT = "char c[5]; void g(int a, int b[]) { a + 1; } int main(int n) { return n; }";
    private static final String PLAIN =
        "char c [ 5 ] ; void g ( int a , int b [ ] ) { ( a + 1 ) ; } int main ( int n ) { return n ; }";
    private static final int BLANKS = 0x20202020;
    private static final int TAPE = 32768;
    private final Check check = new Check();

    public static void main(String[] args) {
        CallEdgesTest test = new CallEdgesTest();
        test.nothingWasRead();
        test.aNewTapeIsEmpty();
        test.againBeforeAnyRead();
        test.highestByteFirst();
        test.roomForTwenty();
        test.noRoomForTwenty();
        test.fullTapeIsRead();
        test.endAtItsBounds();
        test.endTakesOff();
        test.endWithinAToken();
        test.readEmptiesTheTape();
        test.placeAndSystem();
        test.placeStays();
        test.functionsAtTheirBounds();
        test.functionAtItsBounds();
        test.wordsAtTheirBounds();
        test.letterAtItsBounds();
        test.markWraps();
        test.againAtItsBounds();
        test.againInPlaceOfWhatIsThere();
        test.againOfNone();
        test.check.close();
    }

    private void nothingWasRead() {
        HomeReader reader = new HomeReader();
        check.due("NONE", HomeReader.NONE, -1);
        check.due("what a new one tells", Check.toldBy(reader), "0 0 0 0 0");
        for (int i : new int[] {0, -1, 1, Integer.MAX_VALUE, Integer.MIN_VALUE}) {
            check.throwsOutside("letter(" + i + ") of a new one", () -> reader.letter(i));
            check.throwsOutside("function(" + i + ", 0) of a new one", () -> reader.function(i, 0));
        }
        check.due("what a new one tells behind refused calls", Check.toldBy(reader), "0 0 0 0 0");
    }

    private void aNewTapeIsEmpty() {
        HomeReader reader = new HomeReader();
        holds(reader, 0);
        check.due("read of a new one", reader.read(false), 12);
        check.due("place of a new one's text", reader.place(), 1);
        check.due("what it tells", Check.toldBy(reader), "1 0 0 0 0");
    }

    private void againBeforeAnyRead() {
        HomeReader reader = Check.tapeWith(RIGHT);
        check.due("again before any read", reader.again(), false);
        check.due("place before any read", reader.place(), 0);
        holds(reader, RIGHT.length());
        check.due("read of the tape that stayed", reader.read(false), 0);
    }

    /** A byte that can't stand tells its own place among blanks. */
    private void highestByteFirst() {
        for (int sign : new int[] {'@', 0, 127, 128, 255}) {
            for (int i = 0; i < 40; i++) {
                HomeReader reader = new HomeReader();
                feedWith(reader, i, sign);
                feedWith(reader, i - 20, sign);
                check.due("read of byte " + sign, reader.read(false), HomeReader.NONE);
                check.due("place of byte " + sign, reader.place(), i + 1);
            }
        }
        HomeReader reader = new HomeReader();
        reader.feed(0x696e7420, 0x6d61696e, 0x28696e74, 0x206e297b, 0x7d202020);
        holds(reader, 20);
        check.due("read of twenty bytes", reader.read(false), 0);
        check.due("plain form of twenty bytes", Check.plainOf(reader), "int main ( int n ) { }");
    }

    /** The sixteen hundred and more calls here are more than promised, but nothing else fills it. */
    private void roomForTwenty() {
        HomeReader reader = tapeOfBlanks(TAPE - 20);
        check.due("feed with room for twenty throws", feedThrows(reader), false);
        holds(reader, TAPE);
        check.due("feed on a full tape throws", feedThrows(reader), true);
        holds(reader, TAPE);
        reader.end(TAPE - 19);
        check.due("feed with room for nineteen throws", feedThrows(reader), true);
        holds(reader, TAPE - 19);
        reader.end(TAPE - 20);
        check.due("feed with room for twenty again throws", feedThrows(reader), false);
    }

    private void noRoomForTwenty() {
        HomeReader reader = Check.tapeWith(RIGHT);
        reader.read(false);
        String told = Check.toldBy(reader);
        Check.lay(reader, Check.MAIN + " ".repeat(TAPE - 19 - Check.MAIN.length()));
        check.due("feed of @ without room throws", feedThrows(reader, 0x40404040), true);
        check.due("what is told behind a refused feed", Check.toldBy(reader), told);
        holds(reader, TAPE - 19);
        check.due("read behind a refused feed", reader.read(false), 0);
        check.due("plain form behind a refused feed", Check.plainOf(reader), "int main ( int n ) { }");
        check.due("feed behind a read throws", feedThrows(reader), false);
    }

    private void fullTapeIsRead() {
        String blanks = " ".repeat(TAPE - 1);
        HomeReader reader = fullTape(blanks + "@");
        check.due("read of the last byte", reader.read(false), HomeReader.NONE);
        check.due("place of the last byte", reader.place(), TAPE);
        reader = fullTape(blanks + " ");
        check.due("read of blanks alone", reader.read(false), 12);
        check.due("place behind a full tape", reader.place(), TAPE + 1);
        reader = fullTape("int" + blanks.substring(2));
        check.due("read of what ends too early", reader.read(false), HomeReader.NONE);
        check.due("place of the text's end", reader.place(), TAPE + 1);
        reader = fullTape("int main(int n){" + ";".repeat(TAPE - 17) + "}");
        check.due("read of many ;", reader.read(false), 0);
        check.due("length of many ;", reader.length(), 22 + 2 * (TAPE - 17));
        reader = fullTape("int main(int n){" + ";".repeat(TAPE - 16));
        check.due("read of too many ;", reader.read(false), HomeReader.NONE);
        check.due("place behind too many ;", reader.place(), TAPE + 1);
    }

    private void endAtItsBounds() {
        HomeReader reader = Check.tapeWith(RIGHT);
        reader.read(false);
        String told = Check.toldBy(reader);
        Check.lay(reader, RIGHT);
        for (int n : new int[] {-1, RIGHT.length() + 1, Integer.MIN_VALUE, Integer.MAX_VALUE}) {
            check.due("end(" + n + ") throws", endThrows(reader, n), true);
            check.due("what is told behind a refused end", Check.toldBy(reader), told);
        }
        check.due("end of all there are throws", endThrows(reader, RIGHT.length()), false);
        check.due("what is told behind end", Check.toldBy(reader), told);
        check.due("read behind refused calls", reader.read(false), 0);
        check.due("what is told behind refused calls", Check.toldBy(reader), told);
    }

    private void endTakesOff() {
        HomeReader reader = Check.tapeWith(RIGHT);
        reader.end(1);
        check.due("end(2) of one byte throws", endThrows(reader, 2), true);
        reader.end(0);
        check.due("end(1) of no byte throws", endThrows(reader, 1), true);
        check.due("end(0) of no byte throws", endThrows(reader, 0), false);
        check.due("read of no byte", reader.read(false), 12);
        check.due("place of no byte", reader.place(), 1);
        reader = Check.tapeWith("int main(int n) { } zz");
        reader.end(19);
        Check.lay(reader, " // behind what counts", 19);
        check.due("read of what counts", reader.read(false), 0);
    }

    /** Of a token, what is taken off is none of it; a ` stands where the tape ends. */
    private void endWithinAToken() {
        String[] ends = {"int main(int n){}/`/", "int main(int n){}//`\n@", "int main(int n){}/*`*/", "int main(int n){}/* *`/",
            "int a = 0`x1;", "int a = 0x`1;", "int a = 0x1`g;", "int a = '`a';", "int a = 'a`';", "int a = '\\`n';",
            "char a[9] = \"`a\";", "char a[9] = \"a`\";", "char a[9] = \"a\\`n\";", "int a`b;", "int a = 1`2345678901;",
            "int a = 429496729`6;", "in`t a;", "int main(int n) { n +`+; }", "int main(int n) { n `= 1; }", "int a = 1 /`* */;"};
        for (String end : ends) {
            int at = end.indexOf('`');
            HomeReader cut = Check.tapeWith(end.replace("`", ""));
            cut.end(at);
            HomeReader fresh = Check.tapeWith(end.substring(0, at));
            check.due("read of " + end, cut.read(false), fresh.read(false));
            check.due("what is told of " + end, Check.toldBy(cut), Check.toldBy(fresh));
        }
        HomeReader reader = Check.tapeWith("int a = 0x1;");
        reader.end(9);
        check.due("read of a cut number", reader.read(false), HomeReader.NONE);
        check.due("place behind a cut number", reader.place(), 10);
        reader = Check.tapeWith("int main(int n){}//");
        reader.end(18);
        check.due("read of a cut comment", reader.read(false), HomeReader.NONE);
        check.due("place of a cut comment", reader.place(), 18);
    }

    private void readEmptiesTheTape() {
        String[] texts = {RIGHT, "@", "int main(int n) { zz; }", "int main(int n) {", ""};
        for (String text : texts) {
            HomeReader reader = Check.tapeWith(text);
            reader.read(false);
            holds(reader, 0);
            Check.lay(reader, "int a; " + RIGHT);
            check.due("read behind read of " + text, reader.read(false), 0);
            check.due("words behind read of " + text, reader.words(), 3);
            Check.lay(reader, text);
            reader.read(true);
            holds(reader, 0);
            check.due("read of the empty tape", reader.read(false), 12);
            check.due("what is told of the empty tape", Check.toldBy(reader), "1 0 0 0 0");
        }
    }

    /** What one read told of does not stay: neither its place, nor that it was one of the system. */
    private void placeAndSystem() {
        HomeReader reader = Check.tapeWith("int main(int n) { load(1); }");
        check.due("read without system", reader.read(false), 2);
        check.due("place without system", reader.place(), 19);
        Check.lay(reader, "int main(int n) { load(1); }");
        check.due("read with system", reader.read(true), 0);
        check.due("place with system", reader.place(), 0);
        check.due("functions with system", reader.functions(), 1);
        Check.lay(reader, "int load(int n) { } int main(int n) { load(1); }");
        check.due("read of its own load", reader.read(false), 0);
        check.due("functions of its own load", reader.functions(), 2);
        Check.lay(reader, "int load(int n) { } int main(int n) { load(1); }");
        check.due("read of its own load with system", reader.read(true), 1);
        check.due("place of its own load with system", reader.place(), 5);
    }

    /** Until the next read all other calls, refused or not, leave what read told of. */
    private void placeStays() {
        String[] marked = {"int main(int n) { `zz; }", "int main(int n) { `@ }", "`", "int a[`0];", RIGHT};
        for (String text : marked) {
            int place = text.indexOf('`') + 1;
            HomeReader reader = Check.tapeWith(text.replace("`", ""));
            reader.read(false);
            String told = Check.toldBy(reader);
            check.due("place of " + text, reader.place(), place);
            check.due("place of " + text + " once more", reader.place(), place);
            stays(told, reader, "endTooMuch", endThrows(reader, 1), true);
            stays(told, reader, "feed", feedThrows(reader, 0x40404040), false);
            stays(told, reader, "end", endThrows(reader, 3), false);
            stays(told, reader, "end of less than nothing", endThrows(reader, -1), true);
            outside(reader, -1, 0);
            stays(told, reader, "function", true, true);
            check.throwsOutside("letter(-1)", () -> reader.letter(-1));
            stays(told, reader, "letter", true, true);
            stays(told, reader, "again", reader.again(), place == 0);
            stays(told, reader, "again once more", reader.again(), place == 0);
            holds(reader, place == 0 ? reader.length() : 3);
        }
        HomeReader reader = Check.tapeWith("int main(int n) { " + ";".repeat(3000) + "}");
        reader.read(false);
        String told = Check.toldBy(reader);
        stays(told, reader, "again of too many", reader.again(), false);
    }

    private void stays(String told, HomeReader reader, String call, boolean answered, boolean wanted) {
        check.due(call, answered, wanted);
        check.due("what is told behind " + call, Check.toldBy(reader), told);
    }

    private void functionsAtTheirBounds() {
        StringBuilder many = new StringBuilder("int main(int n){}");
        for (int i = 1; i < 200; i++) {
            many.append("char f").append(i).append("(){}");
        }
        for (int system = 0; system < 2; system++) {
            HomeReader reader = Check.tapeWith(many.toString());
            check.due("read of 200", reader.read(system == 1), 0);
            check.due("functions of 200", reader.functions(), 200);
            check.due("place of the last", reader.function(199, 0), many.length() - 7);
            check.due("type of the last", reader.function(199, 3), 1);
            outside(reader, 200, 0);
            Check.lay(reader, many + "int g(){}");
            check.due("read of 201", reader.read(system == 1), 14);
            check.due("functions of 201", reader.functions(), 0);
            check.due("place of 201", reader.place(), many.length() + 10);
            outside(reader, 0, 0);
        }
    }

    private void functionAtItsBounds() {
        HomeReader reader = Check.tapeWith(RIGHT);
        outside(reader, 0, 0);
        reader.read(false);
        int[][] due = {{17, 2, 9, 2}, {50, 1, 6, 0}};
        for (int i = 0; i < 8; i++) {
            check.due("function(" + i / 4 + ", " + i % 4 + ")", reader.function(i / 4, i % 4), due[i / 4][i % 4]);
        }
        String told = Check.toldBy(reader);
        int[] wild = {-1, Integer.MIN_VALUE, Integer.MAX_VALUE};
        for (int other : wild) {
            outside(reader, other, 0);
            outside(reader, 0, other);
            outside(reader, 1, other);
            outside(reader, other, other);
        }
        outside(reader, 2, 0);
        outside(reader, 2, 3);
        outside(reader, 0, 4);
        outside(reader, 1, 4);
        check.due("what is told behind refused calls", Check.toldBy(reader), told);
        for (String text : new String[] {"int main(int n) { zz; }", "int main(int n) { @ }", ""}) {
            Check.lay(reader, text);
            reader.read(false);
            check.due("functions of " + text, reader.functions(), 0);
            outside(reader, 0, 0);
        }
    }

    private void wordsAtTheirBounds() {
        words(0, "");
        words(1, "int a;");
        words(1, "char a[1];");
        words(1, "char a[4];");
        words(2, "char a[5];");
        words(1024, "char a[4096];");
        words(1024, "char a[4093];");
        words(1023, "char a[4092];");
        words(8192, "int a[4096], b[4095], c;");
        words(0, "int a[4096], b[4095], c; char d;");
    }

    private void letterAtItsBounds() {
        HomeReader reader = Check.tapeWith(RIGHT);
        reader.read(false);
        check.due("length", reader.length(), PLAIN.length());
        check.due("plain form", Check.plainOf(reader), PLAIN);
        check.due("first letter", reader.letter(0), (int) 'c');
        check.due("last letter", reader.letter(PLAIN.length() - 1), (int) '}');
        String told = Check.toldBy(reader);
        for (int i : new int[] {-1, PLAIN.length(), Integer.MIN_VALUE, Integer.MAX_VALUE}) {
            check.throwsOutside("letter(" + i + ")", () -> reader.letter(i));
        }
        check.due("what is told behind refused calls", Check.toldBy(reader), told);
        // A shorter one leaves nothing of the longer one behind it.
        Check.lay(reader, "int main(int n) { }");
        reader.read(false);
        check.throwsOutside("letter behind a shorter one", () -> reader.letter(22));
        Check.lay(reader, "int main(int n) { zz; }");
        reader.read(false);
        check.due("length of a wrong one", reader.length(), 0);
        check.due("mark of a wrong one", reader.mark(), 0);
        check.throwsOutside("letter of a wrong one", () -> reader.letter(0));
    }

    private void markWraps() {
        HomeReader reader = Check.tapeWith("int main(int n){}");
        reader.read(false);
        long sum = 0;
        for (int i = 0; i < reader.length(); i++) {
            sum = 31 * sum + reader.letter(i) & 0xFFFFFFFFL;
        }
        check.due("mark", reader.mark(), (int) sum);
        for (int i = 0; i < 40; i++) {
            String plain = "int main ( int n ) { return " + i + " ; }";
            reader = Check.tapeWith(plain);
            reader.read(false);
            check.due("mark of " + plain, reader.mark(), plain.hashCode());
        }
    }

    /** Each name has one letter more or less, so that all lengths about 4096 come. */
    private void againAtItsBounds() {
        for (int length = 4093; length < 4100; length++) {
            String name = length % 2 == 0 ? "ff" : "f";
            String head = "int " + name + "(){";
            int many = (length - 40 - name.length()) / 2;
            HomeReader reader = Check.tapeWith(head + ";".repeat(many) + "}int main(int n){}");
            check.due("read", reader.read(false), 0);
            check.due("length", reader.length(), length);
            String told = Check.toldBy(reader);
            Check.lay(reader, "zz");
            check.due("again of " + length, reader.again(), length <= 4096);
            holds(reader, length <= 4096 ? length : 2);
            check.due("what is told behind again", Check.toldBy(reader), told);
            check.due("read behind again", reader.read(false), length <= 4096 ? 0 : HomeReader.NONE);
            check.due("place behind again", reader.place(), length <= 4096 ? 0 : 1);
        }
    }

    private void againInPlaceOfWhatIsThere() {
        HomeReader reader = Check.tapeWith(RIGHT);
        reader.read(false);
        String told = Check.toldBy(reader);
        Check.lay(reader, "@".repeat(5000));
        check.due("again over more", reader.again(), true);
        holds(reader, PLAIN.length());
        check.due("again over as much", reader.again(), true);
        holds(reader, PLAIN.length());
        reader.end(0);
        check.due("again over nothing", reader.again(), true);
        holds(reader, PLAIN.length());
        check.due("what is told behind again", Check.toldBy(reader), told);
        check.due("read behind again", reader.read(false), 0);
        check.due("plain form of the plain form", Check.plainOf(reader), PLAIN);
        holds(reader, 0);
        check.due("again behind that", reader.again(), true);
        Check.lay(reader, "  int x;", PLAIN.length());
        check.due("read of what came behind it", reader.read(false), 0);
        check.due("words with what came behind it", reader.words(), 3);
    }

    private void againOfNone() {
        for (String text : new String[] {"int main(int n) { zz; }", "int main(int n) {", "@", ""}) {
            HomeReader reader = Check.tapeWith(RIGHT);
            reader.read(false);
            Check.lay(reader, text);
            reader.read(false);
            Check.lay(reader, "int main(int n) { n + 1; }");
            check.due("again behind " + text, reader.again(), false);
            holds(reader, 26);
            check.due("read of the tape that stayed", reader.read(false), 0);
            check.due("plain form of the tape that stayed", Check.plainOf(reader), "int main ( int n ) { ( n + 1 ) ; }");
        }
    }

    /** That the tape has so many bytes; it has them still behind this. */
    private void holds(HomeReader reader, int bytes) {
        check.due("end of one more than " + bytes + " throws", endThrows(reader, bytes + 1), true);
        check.due("end(" + bytes + ") throws", endThrows(reader, bytes), false);
    }

    private void outside(HomeReader reader, int f, int what) {
        check.throwsOutside("function(" + f + ", " + what + ")", () -> reader.function(f, what));
    }

    private void words(int wanted, String variables) {
        HomeReader reader = Check.tapeWith(variables + Check.MAIN);
        boolean right = reader.read(false) == 0;
        check.due("words of " + variables, reader.words(), wanted);
        check.due("that " + variables + " is right", right, !variables.contains("char d;"));
    }

    /** Twenty blanks, the sign at place i of them if there is such a place. */
    private static void feedWith(HomeReader reader, int i, int sign) {
        int[] fours = {BLANKS, BLANKS, BLANKS, BLANKS, BLANKS};
        if (i >= 0 && i < 20) {
            int shift = 24 - 8 * (i % 4);
            fours[i / 4] = fours[i / 4] & ~(255 << shift) | sign << shift;
        }
        reader.feed(fours[0], fours[1], fours[2], fours[3], fours[4]);
    }

    private static HomeReader tapeOfBlanks(int many) {
        HomeReader reader = new HomeReader();
        for (int i = 0; i < many; i += 20) {
            reader.feed(BLANKS, BLANKS, BLANKS, BLANKS, BLANKS);
        }
        reader.end(many);
        return reader;
    }

    /** The text has as many bytes as the tape; its last twenty are fed where just they have room. */
    private static HomeReader fullTape(String text) {
        HomeReader reader = Check.tapeWith(text.substring(0, TAPE - 20));
        Check.lay(reader, text.substring(TAPE - 20), TAPE - 20);
        return reader;
    }

    private static boolean feedThrows(HomeReader reader) {
        return feedThrows(reader, BLANKS);
    }

    private static boolean feedThrows(HomeReader reader, int four) {
        try {
            reader.feed(four, four, four, four, four);
        } catch (IllegalStateException e) {
            return e.getClass() == IllegalStateException.class;
        }
        return false;
    }

    private static boolean endThrows(HomeReader reader, int n) {
        try {
            reader.end(n);
        } catch (IllegalArgumentException e) {
            return e.getClass() == IllegalArgumentException.class;
        }
        return false;
    }
}
