/** Promises 1 to 3 and 12: what is on the tape. */
public final class TapeTest {
    private static final String RIGHT = "int main(int n) { return n; }";
    private static final int BLANKS = 0x20202020;
    private final Check check = new Check();

    public static void main(String[] args) {
        TapeTest test = new TapeTest();
        test.newObject();
        test.feed();
        test.fullTape();
        test.end();
        test.emptyAfterRead();
        test.again();
        test.againOfMany();
        test.check.close();
    }

    private void newObject() {
        HomeReader reader = new HomeReader();
        check.due("NONE", HomeReader.NONE, -1);
        check.due("place of a new one", reader.place(), 0);
        check.due("functions of a new one", reader.functions(), 0);
        check.due("words of a new one", reader.words(), 0);
        check.due("length of a new one", reader.length(), 0);
        check.due("mark of a new one", reader.mark(), 0);
        check.due("again of a new one", reader.again(), false);
        check.throwsOutside("letter of a new one", () -> reader.letter(0));
        check.throwsOutside("function of a new one", () -> reader.function(0, 0));
        check.due("end(1) of a new one", endThrows(reader, 1), true);
        check.due("end(0) of a new one", endThrows(reader, 0), false);
        check.due("read of a new one", reader.read(false), 12);
        check.due("place of the empty text", reader.place(), 1);
    }

    /** A letter in each of the twenty bytes; one of over 127, too, must not spoil its neighbour. */
    private void feed() {
        HomeReader reader = new HomeReader();
        reader.feed(0x696e7420, 0x6d61696e, 0x28696e74, 0x206e297b, 0x7d2f2f20);
        check.due("read of int main(int n){}// ", reader.read(false), 0);
        reader.feed(0x2f2f20ff, 0xfffefd80, -1, 0, 0x0a40fffe);
        check.due("read of @ behind a comment", reader.read(false), -1);
        check.due("place of @", reader.place(), 18);
    }

    private void fullTape() {
        HomeReader reader = new HomeReader();
        for (int i = 0; i < 32768 / 20; i++) {
            reader.feed(BLANKS, BLANKS, BLANKS, BLANKS, BLANKS);
        }
        check.due("feed without room", feedThrows(reader), true);
        check.due("end(32761)", endThrows(reader, 32761), true);
        reader.end(32748);
        check.due("feed with room for twenty", feedThrows(reader), false);
        reader.end(32749);
        check.due("feed with room for nineteen", feedThrows(reader), true);
        check.due("read of blanks", reader.read(false), 12);
        check.due("place behind blanks", reader.place(), 32750);
    }

    private void end() {
        HomeReader reader = Check.tapeWith(RIGHT + "@");
        check.due("end(-1)", endThrows(reader, -1), true);
        check.due("end of more", endThrows(reader, RIGHT.length() + 2), true);
        reader.end(RIGHT.length() + 1);
        reader.end(RIGHT.length());
        check.due("end of what was taken off", endThrows(reader, RIGHT.length() + 1), true);
        check.due("read of what counts", reader.read(false), 0);
    }

    private void emptyAfterRead() {
        HomeReader reader = Check.tapeWith(RIGHT);
        check.due("first read", reader.read(false), 0);
        check.due("end(1) behind a read", endThrows(reader, 1), true);
        check.due("second read", reader.read(false), 12);
        check.due("place of the second", reader.place(), 1);
        check.due("length of the second", reader.length(), 0);
    }

    private void again() {
        HomeReader reader = Check.tapeWith(RIGHT);
        reader.read(false);
        Check.lay(reader, "what comes away");
        int mark = reader.mark();
        check.due("again", reader.again(), true);
        check.due("end of more than the plain form", endThrows(reader, reader.length() + 1), true);
        check.due("again behind again", reader.again(), true);
        Check.lay(reader, " int x;", reader.length());
        check.due("read of both", reader.read(false), 0);
        check.due("words of both", reader.words(), 1);
        check.due("again of both", reader.again(), true);
        reader.end(mark == 0 ? 0 : reader.length() - 8);
        check.due("read of the first", reader.read(false), 0);
        check.due("mark of the first", reader.mark(), mark);
        Check.lay(reader, "int");
        reader.read(false);
        Check.lay(reader, RIGHT);
        check.due("again without a plain form", reader.again(), false);
        check.due("the tape that stayed", reader.read(false), 0);
    }

    /** The plain form of main has 22 characters, and 2 more for each ; in it. */
    private void againOfMany() {
        for (int many = 2036; many < 2039; many++) {
            HomeReader reader = Check.tapeWith("int main(int n){" + Check.times(";", many) + "}");
            check.due("read of many", reader.read(false), 0);
            check.due("length of many", reader.length(), 22 + 2 * many);
            check.due("again of many", reader.again(), 22 + 2 * many <= 4096);
            check.due("read behind", reader.read(false), 22 + 2 * many <= 4096 ? 0 : 12);
        }
    }

    private static boolean feedThrows(HomeReader reader) {
        try {
            reader.feed(BLANKS, BLANKS, BLANKS, BLANKS, BLANKS);
        } catch (IllegalStateException e) {
            return true;
        }
        return false;
    }

    private static boolean endThrows(HomeReader reader, int n) {
        try {
            reader.end(n);
        } catch (IllegalArgumentException e) {
            return true;
        }
        return false;
    }
}
