import java.util.ArrayList;
import java.util.Arrays;
import java.util.HashSet;
import java.util.List;
import java.util.Set;

/**
 * Promises 4 and 5: behind each beginning of a text, which of all tokens can stand next. One that
 * can't is told at its place, and behind one that can the place is the text's end.
 */
public final class GrammarEdgesTest {
    private static final String KEYWORDS = "int char void enum if else while do for switch case default break continue return";
    private static final String BETWEEN = "|| && | ^ & == != < > <= >= << >> + - * / %";
    private static final String ASSIGNING = "= += -= *= /= %= <<= >>= &= |= ^=";
    private static final String OTHERS = "( ) { } [ ] , ; : ? ! ~ ++ -- a 1 'a' \"\"";
    private static final List<String> ALL = List.of(
        (KEYWORDS + " " + BETWEEN + " " + ASSIGNING + " " + OTHERS).split(" "));

    // What an expression begins with, and what comes behind a name, an element or a call, a ++ in it.
    private static final String OPERAND = " a 1 'a' ( - + ! ~ ++ -- ";
    private static final String AFTER_STEP = " " + BETWEEN + " ? ";
    private static final String AFTER_NUMBER = AFTER_STEP + "++ -- ";
    private static final String AFTER_NAME = AFTER_NUMBER + "( [ ";
    private static final String A = " " + ASSIGNING + " ";
    private static final String STATEMENT = OPERAND + "{ ; int char if while do for switch break continue return ";
    private static final String ITEM = " enum int char void ";
    private final Check check = new Check();

    public static void main(String[] args) {
        GrammarEdgesTest test = new GrammarEdgesTest();
        test.items();
        test.enums();
        test.headers();
        test.variables();
        test.statements();
        test.loops();
        test.switches();
        test.operands();
        test.operators();
        test.anyBeginningGoesOn();
        test.check.close();
    }

    private void items() {
        next("", ITEM);
        next("enum { A } ;", ITEM);
        next("int a ;", ITEM);
        next("int a ( ) { }", ITEM);
        next("void a ( void ) { ; }", ITEM);
        next("int", " a ");
        next("char", " a ");
        next("void", " a ");
        next("int a", " ( [ = , ; ");
        next("char a", " ( [ = , ; ");
        next("void a", " ( ");
    }

    private void enums() {
        next("enum", " { ");
        next("enum {", " a ");
        next("enum { A", " = , } ");
        next("enum { A =", OPERAND);
        next("enum { A = 1", AFTER_NUMBER + ", } ");
        next("enum { A = B", AFTER_NAME + ", } ");
        next("enum { A = 1 ? 2", AFTER_NUMBER + A + ": ");
        next("enum { A = 1 ? 2 : 3", AFTER_NUMBER + ", } ");
        next("enum { A = ( 1", AFTER_NUMBER + A + ") ");
        next("enum { A ,", " a ");
        next("enum { A , B", " = , } ");
        next("enum { A }", " ; ");
        next("enum { A = 1 }", " ; ");
    }

    private void headers() {
        next("int a (", " void int char ) ");
        next("void a (", " void int char ) ");
        next("int a ( void", " ) ");
        next("int a ( )", " { ");
        next("int a ( void )", " { ");
        next("int a ( int", " a ");
        next("int a ( char", " a ");
        next("int a ( int b", " [ , ) ");
        next("int a ( int b [", " ] ");
        next("int a ( int b [ ]", " , ) ");
        next("int a ( int b ,", " int char ");
        next("int a ( int b [ ] , char", " a ");
        next("int a ( int b [ ] , char c", " [ , ) ");
        next("int a ( int b )", " { ");
        next("int a ( ) {", STATEMENT + "} ");
    }

    private void variables() {
        for (String ahead : new String[] {"", "int main ( int n ) { ", "int main ( int n ) { for ( ",
            "int main ( int n ) { switch ( n ) { case 1 : "}) {
            String first = ahead.isEmpty() ? " ( " : " ";
            next(ahead + "int", " a ");
            next(ahead + "char", " a ");
            next(ahead + "int a", first + "[ = , ; ");
            next(ahead + "int a ,", " a ");
            next(ahead + "int a , b", " [ = , ; ");
            next(ahead + "int a [ 1 ] , b", " [ = , ; ");
            next(ahead + "int a =", OPERAND);
            next(ahead + "int a = 1", AFTER_NUMBER + A + ", ; ");
            next(ahead + "int a = b", AFTER_NAME + A + ", ; ");
            next(ahead + "int a = b = c", AFTER_NAME + A + ", ; ");
            next(ahead + "int a = 1 + 1", AFTER_NUMBER + ", ; ");
            next(ahead + "int a [", OPERAND);
            next(ahead + "int a [ 1", AFTER_NUMBER + "] ");
            next(ahead + "int a [ b", AFTER_NAME + "] ");
            next(ahead + "int a [ 1 ]", " = , ; ");
            next(ahead + "int a [ 1 ] =", " { \"\" ");
            next(ahead + "int a [ 1 ] = {", OPERAND);
            next(ahead + "int a [ 1 ] = { 1", AFTER_NUMBER + ", } ");
            next(ahead + "int a [ 1 ] = { b", AFTER_NAME + ", } ");
            next(ahead + "int a [ 1 ] = { 1 ,", OPERAND);
            next(ahead + "int a [ 1 ] = { 1 , b", AFTER_NAME + ", } ");
            next(ahead + "int a [ 1 ] = { 1 }", " , ; ");
            next(ahead + "char a [ 1 ] = \"\"", " , ; ");
        }
    }

    private void statements() {
        inMain("", STATEMENT + "} ");
        for (String whole : new String[] {";", "{ }", "n ;", "int a ;", "char a [ 1 ] ;", "while ( n ) ;", "do ; while ( n ) ;",
            "for ( ; ; ) ;", "switch ( n ) { }", "break ;", "continue ;", "return ;", "return n ;", "if ( n ) ; else ;",
            "{ if ( n ) ; }", "if ( n ) if ( n ) ; else ; else ;", "do if ( n ) ; while ( n ) ;"}) {
            inMain(whole, STATEMENT + "} ");
            inMain("{ " + whole, STATEMENT + "} ");
            inMain("if ( n ) " + whole, STATEMENT + "} else ");
            inMain("if ( n ) ; else " + whole, STATEMENT + "} ");
            inMain("if ( n ) if ( n ) ; else " + whole, STATEMENT + "} else ");
            inMain("do " + whole, " while ");
            inMain("switch ( n ) { default : " + whole, STATEMENT + "} case default ");
        }
        inMain("if", " ( ");
        inMain("if (", OPERAND);
        inMain("if ( n", AFTER_NAME + A + ") ");
        inMain("if ( n )", STATEMENT);
        inMain("if ( n ) ; else", STATEMENT);
        inMain("if ( n ) ; else if", " ( ");
        inMain("do if ( n ) ;", " while else ");
        inMain("break", " ; ");
        inMain("continue", " ; ");
        inMain("return", OPERAND + "; ");
        inMain("return n", AFTER_NAME + A + "; ");
        inMain("{", STATEMENT + "} ");
    }

    private void loops() {
        inMain("while", " ( ");
        inMain("while (", OPERAND);
        inMain("while ( n", AFTER_NAME + A + ") ");
        inMain("while ( n )", STATEMENT);
        inMain("do", STATEMENT);
        inMain("do ; while", " ( ");
        inMain("do ; while (", OPERAND);
        inMain("do ; while ( n", AFTER_NAME + A + ") ");
        inMain("do ; while ( n )", " ; ");
        inMain("for", " ( ");
        inMain("for (", OPERAND + "int char ; ");
        inMain("for ( n", AFTER_NAME + A + "; ");
        inMain("for ( int a = 1 ;", OPERAND + "; ");
        inMain("for ( n ;", OPERAND + "; ");
        inMain("for ( ;", OPERAND + "; ");
        inMain("for ( ; n", AFTER_NAME + A + "; ");
        inMain("for ( ; n ;", OPERAND + ") ");
        inMain("for ( ; ;", OPERAND + ") ");
        inMain("for ( ; ; n", AFTER_NAME + A + ") ");
        inMain("for ( ; ; )", STATEMENT);
        inMain("for ( n ; n ; n )", STATEMENT);
    }

    private void switches() {
        inMain("switch", " ( ");
        inMain("switch (", OPERAND);
        inMain("switch ( n", AFTER_NAME + A + ") ");
        inMain("switch ( n )", " { ");
        inMain("switch ( n ) {", " case default } ");
        inMain("switch ( n ) { case", OPERAND);
        inMain("switch ( n ) { case 1", AFTER_NUMBER + ": ");
        inMain("switch ( n ) { case b", AFTER_NAME + ": ");
        inMain("switch ( n ) { case 1 ? 2", AFTER_NUMBER + A + ": ");
        inMain("switch ( n ) { case 1 ? 2 : 3", AFTER_NUMBER + ": ");
        inMain("switch ( n ) { case 1 :", STATEMENT + "} case default ");
        inMain("switch ( n ) { default", " : ");
        inMain("switch ( n ) { default :", STATEMENT + "} case default ");
        inMain("switch ( n ) { default : case 1 :", STATEMENT + "} case default ");
        inMain("switch ( n ) { default : {", STATEMENT + "} ");
        inMain("switch ( n ) { default : if ( n )", STATEMENT);
        inMain("switch ( n ) { default : switch ( n ) {", " case default } ");
    }

    private void operands() {
        for (String ahead : new String[] {"", "- ", "+ ", "! ", "~ ", "++ ", "-- ", "- - ", "n = ", "n += ", "- n = "}) {
            inMain(ahead + "n", AFTER_NAME + A + "; ");
            inMain(ahead + "1", AFTER_NUMBER + A + "; ");
            inMain(ahead + "'a'", AFTER_NUMBER + A + "; ");
            inMain(ahead + "n [ 1 ]", AFTER_NUMBER + A + "; ");
            inMain(ahead + "n ( )", AFTER_NUMBER + A + "; ");
            inMain(ahead + "n ( 1 , 2 )", AFTER_NUMBER + A + "; ");
            inMain(ahead + "( n )", AFTER_NUMBER + A + "; ");
            inMain(ahead + "( n = 1 )", AFTER_NUMBER + A + "; ");
            inMain(ahead + "n ++", AFTER_STEP + A + "; ");
            inMain(ahead + "n --", AFTER_STEP + A + "; ");
            inMain(ahead + "n [ 1 ] ++", AFTER_STEP + A + "; ");
            inMain(ahead + "n (", OPERAND + ") ");
            inMain(ahead + "n ( n", AFTER_NAME + A + ", ) ");
            inMain(ahead + "n ( n = n", AFTER_NAME + A + ", ) ");
            inMain(ahead + "n ( n ,", OPERAND);
            inMain(ahead + "n ( n , n", AFTER_NAME + A + ", ) ");
            inMain(ahead + "n [", OPERAND);
            inMain(ahead + "n [ n", AFTER_NAME + A + "] ");
            inMain(ahead + "n [ n = n", AFTER_NAME + A + "] ");
            inMain(ahead + "(", OPERAND);
            inMain(ahead + "( n", AFTER_NAME + A + ") ");
            inMain(ahead + "( n = n", AFTER_NAME + A + ") ");
        }
    }

    private void operators() {
        for (String operator : "- + ! ~ ++ --".split(" ")) {
            inMain(operator, OPERAND);
            inMain("n = " + operator, OPERAND);
            inMain("n + " + operator, OPERAND);
            inMain(operator + " n ++", AFTER_STEP + A + "; ");
        }
        for (String operator : BETWEEN.split(" ")) {
            inMain("n " + operator, OPERAND);
            inMain("n " + operator + " n", AFTER_NAME + "; ");
            inMain("n " + operator + " - n", AFTER_NAME + "; ");
            inMain("n " + operator + " n ++", AFTER_STEP + "; ");
            inMain("n " + operator + " 1 " + operator, OPERAND);
            inMain("n " + operator + " 1 " + operator + " 1", AFTER_NUMBER + "; ");
            inMain("n = n " + operator + " n", AFTER_NAME + "; ");
        }
        for (String operator : ASSIGNING.split(" ")) {
            inMain("n " + operator, OPERAND);
            inMain("n " + operator + " n", AFTER_NAME + A + "; ");
            inMain("n " + operator + " n ++", AFTER_STEP + A + "; ");
            inMain("n " + operator + " n = n", AFTER_NAME + A + "; ");
        }
        inMain("n ?", OPERAND);
        inMain("n ? n", AFTER_NAME + A + ": ");
        inMain("n ? n = n", AFTER_NAME + A + ": ");
        inMain("n ? n + n", AFTER_NAME + ": ");
        inMain("n ? n :", OPERAND);
        inMain("n ? n : n", AFTER_NAME + "; ");
        inMain("n ? n : n ?", OPERAND);
        inMain("n ? n : n ? n", AFTER_NAME + A + ": ");
        inMain("n ? n : n ? n : n", AFTER_NAME + "; ");
        inMain("n ? n ? n : n", AFTER_NAME + ": ");
        inMain("n = n ? n : n", AFTER_NAME + "; ");
    }

    /** With some of its tokens each text begins as one, and ends too early. */
    private void anyBeginningGoesOn() {
        String text = "enum { A , B = - 3 , C } ; int x = A + B * 2 , y [ 7 ] = { 1 , 2 } ; char s [ 6 ] = \"he\\n\" ;"
            + " int f ( int a , char b [ ] , int c [ ] ) { int i ; for ( int j = 0 ; j < len ( c ) ; j ++ ) { c [ j ] += a ? b [ j ]"
            + " : - 1 ; if ( j == 2 ) continue ; else break ; } return a << 2 | 1 ; } void g ( void ) { return ; }"
            + " int main ( int n ) { switch ( n % 3 ) { case 0 : put ( 1 ) ; case 'a' : default : g ( ) ; } do { n = n - 1 ; }"
            + " while ( ! n && ( x ) ) ; for ( ; ; ) ; return f ( n , s , y ) ; }";
        String[] tokens = text.split(" ");
        StringBuilder beginning = new StringBuilder();
        int open = 0;
        for (String token : tokens) {
            beginning.append(token).append(' ');
            open += "({[".contains(token) ? 1 : ")}]".contains(token) ? -1 : 0;
            boolean whole = open == 0 && (token.equals(";") || token.equals("}") && !beginning.toString().endsWith("C } "))
                && !beginning.toString().endsWith("{ 1 , 2 } ");
            HomeReader reader = Check.tapeWith(beginning.toString());
            check.due("that no text is " + beginning, reader.read(false) == HomeReader.NONE, !whole);
            if (!whole) {
                check.due("place of " + beginning, reader.place(), beginning.length() + 1);
            }
            check.none(beginning + "`@");
        }
        check.due("read of the whole text", Check.tapeWith(text).read(false), 0);
    }

    private void inMain(String beginning, String allowed) {
        next("int main ( int n ) { " + beginning, allowed);
    }

    private void next(String beginning, String allowed) {
        Set<String> can = new HashSet<>(Arrays.asList(allowed.trim().split(" +")));
        check.due("that all are tokens: " + allowed, new ArrayList<>(ALL).containsAll(can), true);
        for (String token : ALL) {
            String text = beginning + " " + token;
            HomeReader reader = Check.tapeWith(text);
            boolean none = reader.read(false) == HomeReader.NONE;
            if (!can.contains(token)) {
                check.due("that no text begins with " + text, none, true);
                check.due("place of " + text, reader.place(), beginning.length() + 2);
            } else if (none) {
                check.due("place of " + text, reader.place(), text.length() + 1);
            }
        }
    }
}
