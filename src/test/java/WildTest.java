import java.util.ArrayList;
import java.util.List;

/**
 * Promises 4 to 12 of texts that nobody thought of: right ones with tokens lost, doubled, exchanged
 * or put in, and rows of bytes. What each read tells must hold together, as the document says.
 */
public final class WildTest {
    private static final int MANY = 6000;
    private static final String[] TEXTS = {
        "enum { A , B = 3 , C = - A } ; int i ; char c = 'a' ; int r [ B ] = { 1 , A } ; char s [ 4 ] = \"a_b\" ;"
            + " int main ( int n ) { return n ; }",
        "int f ( int a , char b [ ] , int d [ ] ) { if ( a ) return f ( a - 1 , b , d ) ; else { b [ a ] = d [ 0 ] ++ ; } }"
            + " int main ( int n ) { int q [ 3 ] ; char w [ 5 ] = \"x\" ; f ( n , w , q ) ; len ( w ) ; }",
        "int main ( int n ) { for ( int i = 0 , j ; i < n ; ++ i ) { if ( i == 3 ) continue ; break ; } do n -- ; while ( n > 0 ) ; }",
        "void v ( void ) { ; return ; } int main ( int n ) { v ( ) ; switch ( n ) { case 1 : case - 2 : v ( ) ; break ;"
            + " default : { int n ; n = + 1 ; } } while ( n ) n = n ? ( n << 2 ) : ~ n || ! n && n ; }",
        "int main ( int n ) { n = n + n - n ; n += ( n * n ) / n % ( n | n ^ n & n ) ; n = n == n != n < n >> n ; ( n ) = + ( n + 1 ) - 2 ; }"
            + " int x , y [ 2 * 3 ] ; char z = 1 || 1 / 0 ;",
        "int control ; int main ( int n ) { put ( 1 ) ; send ( n , recv ( n ) ) ; int a [ 2 ] ; get ( 0 , a ) ; set ( n , a ) ; end ( more ( 1 ) ) ; }",
        "int main ( int n ) { control ( 1 + 2 ) ; setcontrol ( 3 , n ) ; store ( load ( n ) , host ( 1 , 2 , 3 ) ) ; spawn ( wait ( 1 ) , 2 ) ; }"
    };
    private static final String[] TOKENS = ("int char void enum if else while do for switch case default break continue return ( ) { } [ ]"
        + " , ; : ? = += << >>= || && | ^ & == < > - + * / % ! ~ ++ -- a n i r s f v A B main put len 0 1 3 4097 4294967295 0x1f '\\n'"
        + " \"ab\" \"\" /* // 0x 'ab' 99999999999 @ zz ( n ) { ; } ( r ) v ( ) 1 / 0 [ 0 ]").split(" ");
    // One of these may stand for another of the same row without that the text is none.
    private static final String[][] ALIKE = {
        "a n i r s f v A B q w x y c main put len zz 0 1 2 3 4 5 4097 2147483648 0x1f '\\n'".split(" "),
        "|| && | ^ & == != < > <= >= << >> + - * / %".split(" "),
        "= += -= *= /= %= <<= >>= &= |= ^=".split(" "),
        "int char".split(" "),
        "break continue".split(" "),
        "! ~ ++ -- - +".split(" "),
        "if while switch".split(" ")
    };
    private final Check check = new Check();
    private int state = 20261119;
    private int rightOnes;
    private int none;
    private int wrong;

    public static void main(String[] args) {
        WildTest test = new WildTest();
        test.changedTexts();
        test.cutTexts();
        test.rowsOfBytes();
        test.check.due("that there were right ones, wrong ones and none",
            test.rightOnes > 300 && test.wrong > 1000 && test.none > 1000, true);
        test.check.close();
    }

    private int below(int bound) {
        state = state * 1103515245 + 12345;
        int mixed = (state ^ state >>> 15) * 0x2c1b3c6d;
        return ((mixed ^ mixed >>> 13) >>> 1) % bound;
    }

    private void changedTexts() {
        for (int i = 0; i < MANY; i++) {
            List<String> tokens = new ArrayList<>(List.of(TEXTS[below(TEXTS.length)].split(" ")));
            for (int change = below(3); change >= 0; change--) {
                change(tokens);
            }
            StringBuilder text = new StringBuilder();
            for (String token : tokens) {
                text.append(token).append(below(9) == 0 ? "/* */" : below(9) == 0 ? "\n" : " ");
            }
            holdsTogether(text.toString(), below(2) == 0);
        }
    }

    private void change(List<String> tokens) {
        int place = below(tokens.size());
        int other = below(tokens.size());
        for (int turn = 0; turn < 20 && below(8) > 0; turn++) {
            String alike = alike(tokens.get(place));
            if (alike != null) {
                tokens.set(place, alike);
                return;
            }
            place = below(tokens.size());
        }
        switch (below(4)) {
            case 0:
                tokens.remove(place);
                break;
            case 1:
                tokens.add(place, TOKENS[below(TOKENS.length)]);
                break;
            case 2:
                tokens.set(place, TOKENS[below(TOKENS.length)]);
                break;
            default:
                tokens.set(place, tokens.set(other, tokens.get(place)));
                break;
        }
    }

    private String alike(String token) {
        for (String[] row : ALIKE) {
            if (List.of(row).contains(token)) {
                return row[below(row.length)];
            }
        }
        return null;
    }

    /** A text that goes on rightly somehow can't be refused ahead of its last token. */
    private void cutTexts() {
        for (String text : TEXTS) {
            for (int end = 0; end <= text.length(); end++) {
                String cut = text.substring(0, end);
                HomeReader reader = Check.tapeWith(cut);
                int last = Math.max(cut.lastIndexOf(' '), cut.lastIndexOf('"')) + 1;
                if (reader.read(true) == HomeReader.NONE) {
                    check.due("that the place in " + cut + " is not ahead of the last token", reader.place() >= last, true);
                }
                holdsTogether(cut, end % 2 == 0);
            }
        }
    }

    private void rowsOfBytes() {
        for (int i = 0; i < 1000; i++) {
            StringBuilder text = new StringBuilder(i % 2 == 0 ? "" : "int main(int n){");
            for (int many = below(60); many > 0; many--) {
                text.append((char) (i % 3 == 0 ? below(256) : "int (){}[];=+-*/%&|^<>!~?:,0123'\"\\n_x ".charAt(below(38))));
            }
            holdsTogether(text.toString(), i % 4 < 2);
        }
    }

    private void holdsTogether(String text, boolean system) {
        HomeReader reader = Check.tapeWith(text);
        int answer = reader.read(system);
        check.due("that read's answer is one: " + text, answer >= -1 && answer <= 14, true);
        if (answer == 0) {
            rightOnes++;
            right(reader, text, system);
            return;
        }
        int place = reader.place();
        String what = answer + " at " + place + " of " + text;
        boolean behind = answer >= 12;
        check.due("that the place is one: " + what, behind ? place == text.length() + 1 : place > 0 && place <= text.length() + 1, true);
        check.due("what is told of none: " + what, Check.toldBy(reader), place + " 0 0 0 0");
        check.due("again: " + what, reader.again(), false);
        check.throwsOutside("letter(0): " + what, () -> reader.letter(0));
        check.throwsOutside("function(0, 0): " + what, () -> reader.function(0, 0));
        if (answer == HomeReader.NONE) {
            none++;
            none(text, place, system);
        } else {
            wrong++;
        }
    }

    /** What stands ahead of the token that can't stand goes on somehow, or is a whole text. */
    private void none(String text, int place, boolean system) {
        HomeReader reader = Check.tapeWith(text.substring(0, place - 1));
        if (reader.read(system) == HomeReader.NONE) {
            check.due("the place of what is ahead of " + place + " in " + text, reader.place(), place);
        }
        if (place <= text.length()) {
            HomeReader other = Check.tapeWith(text + " @ \" /*");
            check.due("the read of more than " + text, other.read(!system), HomeReader.NONE);
            boolean open = text.charAt(place - 1) == '"' || text.charAt(place - 1) == '/';
            check.due("the place of more than " + text, open || other.place() == place, true);
        }
    }

    /** The plain form is a right text that has itself for its plain form, and the same functions. */
    private void right(HomeReader reader, String text, boolean system) {
        String plain = Check.plainOf(reader);
        String told = Check.toldBy(reader).replaceFirst("^0 ", "");
        check.due("the place of " + text, reader.place(), 0);
        check.due("the mark of " + text, reader.mark(), plain.hashCode());
        check.due("again of " + text, reader.again(), true);
        HomeReader second = Check.tapeWith(plain);
        check.due("the read of the plain form of " + text, second.read(system), 0);
        check.due("the plain form of the plain form of " + text, Check.plainOf(second), plain);
        check.due("how many functions the plain form of " + text + " has", second.functions(), reader.functions());
        check.due("the words of the plain form of " + text, second.words(), reader.words());
        for (int f = 0; f < reader.functions(); f++) {
            for (int what = 1; what < 4; what++) {
                check.due("function(" + f + ", " + what + ") of " + told, second.function(f, what), reader.function(f, what));
            }
            int at = reader.function(f, 0) - 1;
            int plainAt = second.function(f, 0) - 1;
            check.due("the name of function " + f + " of " + text, nameAt(plain, plainAt), nameAt(text, at));
        }
    }

    private static String nameAt(String text, int at) {
        int end = at;
        while (end < text.length() && (Character.isLetterOrDigit(text.charAt(end)) || text.charAt(end) == '_')) {
            end++;
        }
        return text.substring(at, end);
    }
}
