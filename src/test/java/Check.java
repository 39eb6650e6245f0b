/** What the tests share: a text is laid on a new tape, and a place in it is marked by a `. */
final class Check {
    static final String MAIN = " int main(int n) { }";
    private int asked = 0;
    private int failed = 0;

    static HomeReader tapeWith(String text) {
        HomeReader reader = new HomeReader();
        lay(reader, text);
        return reader;
    }

    /** Lays the text behind what is on the tape, of which there are so many bytes. */
    static void lay(HomeReader reader, String text, int before) {
        for (int from = 0; from < text.length(); from += 20) {
            int[] fours = new int[5];
            for (int i = 0; i < 20; i++) {
                int letter = from + i < text.length() ? text.charAt(from + i) : 0;
                fours[i / 4] = fours[i / 4] << 8 | letter & 255;
            }
            reader.feed(fours[0], fours[1], fours[2], fours[3], fours[4]);
        }
        reader.end(before + text.length());
    }

    static void lay(HomeReader reader, String text) {
        lay(reader, text, 0);
    }

    /** For plain forms so short that an object's 512 calls are enough. */
    static String plainOf(HomeReader reader) {
        StringBuilder plain = new StringBuilder();
        int length = reader.length();
        for (int i = 0; i < length; i++) {
            plain.append((char) reader.letter(i));
        }
        return plain.toString();
    }

    static String times(String part, int many) {
        return part.repeat(many);
    }

    void due(String what, Object got, Object wanted) {
        asked++;
        if (!got.equals(wanted)) {
            failed++;
            System.out.println(what + " answered " + got + ", due is " + wanted);
        }
    }

    /** The text without its mark is no text, from the mark on. */
    void none(String marked) {
        answer(marked, false, HomeReader.NONE);
    }

    void wrong(int number, String marked) {
        answer(marked, false, number);
    }

    void wrongInSystem(int number, String marked) {
        answer(marked, true, number);
    }

    void right(String text) {
        answer(text, false, 0);
    }

    void rightInSystem(String text) {
        answer(text, true, 0);
    }

    private void answer(String marked, boolean system, int wanted) {
        int place = marked.indexOf('`') + 1;
        HomeReader reader = tapeWith(marked.replace("`", ""));
        due("read of " + marked, reader.read(system), wanted);
        due("place of " + marked, reader.place(), place);
        if (wanted != 0) {
            due("length of " + marked, reader.length(), 0);
            due("mark of " + marked, reader.mark(), 0);
            due("functions of " + marked, reader.functions(), 0);
            due("words of " + marked, reader.words(), 0);
            due("again of " + marked, reader.again(), false);
        }
    }

    void plain(String text, String wanted) {
        HomeReader reader = tapeWith(text);
        due("read of " + text, reader.read(true), 0);
        if (wanted.length() < 400) {
            due("plain form of " + text, plainOf(reader), wanted);
        }
        due("length of " + text, reader.length(), wanted.length());
        due("mark of " + text, reader.mark(), wanted.hashCode());
    }

    /** The text in the main that is there has that plain form. */
    void plainIn(String statements, String wanted) {
        String frame = "int q [ 3 ] ; int f ( int x , char y ) { } int g ( void ) { } int main ( int a ) { ";
        plain(frame.replace(" ", "  ") + statements + "}", frame + wanted + " }");
    }

    /** All that a reader tells, as one text: what a call that changes nothing leaves as it is. */
    static String toldBy(HomeReader reader) {
        StringBuilder told = new StringBuilder();
        int functions = reader.functions();
        int length = reader.length();
        told.append(reader.place()).append(' ').append(functions).append(' ');
        for (int i = 0; i < 4 * functions; i++) {
            told.append(reader.function(i / 4, i % 4)).append(' ');
        }
        told.append(reader.words()).append(' ').append(length).append(' ').append(reader.mark());
        for (int i = 0; i < length; i += Math.max(1, length / 10)) {
            told.append(' ').append(reader.letter(i));
        }
        return told.toString();
    }

    void throwsOutside(String what, Runnable call) {
        boolean thrown = false;
        try {
            call.run();
        } catch (IndexOutOfBoundsException e) {
            thrown = e.getClass() == IndexOutOfBoundsException.class;
        }
        due(what + " throws", thrown, true);
    }

    void close() {
        System.out.println(asked + " answers asked, " + failed + " not as due");
        if (failed > 0) {
            System.exit(1);
        }
    }
}
