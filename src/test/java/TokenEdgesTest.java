/** Promises 4, 5 and 9: each sort of tokens at its bounds, the last that can stand and the first that can't. */
public final class TokenEdgesTest {
    private static final String NAME_OF_24 = "aB_3aB_3aB_3aB_3aB_3aB_3";
    private final Check check = new Check();

    public static void main(String[] args) {
        TokenEdgesTest test = new TokenEdgesTest();
        test.blanks();
        test.lineComments();
        test.starComments();
        test.between();
        test.names();
        test.keywords();
        test.noOtherKeywords();
        test.figures();
        test.noSuffixes();
        test.greatNumbers();
        test.hexFigures();
        test.hexWheneverXComes();
        test.characters();
        test.strings();
        test.longStrings();
        test.marks();
        test.longestMarks();
        test.otherBytes();
        test.wrapping();
        test.firstThatCannotStand();
        test.check.close();
    }

    /** Of all bytes below 33 and from 127 on just four are blanks. */
    private void blanks() {
        for (int sign = 0; sign < 256; sign++) {
            boolean blank = sign == 32 || sign == 9 || sign == 10 || sign == 13;
            String text = "int" + (char) sign + "main(int n){}";
            if (blank) {
                check.plain(text, "int main ( int n ) { }");
            } else if (sign < 33 || sign > 126) {
                check.none("int`" + (char) sign + "main(int n){}");
            }
        }
    }

    private void lineComments() {
        check.right("int main(int n){}//");
        check.right("int main(int n){}//@ \u0000\u00ff\r\t*/ \" '");
        check.right("int main(int n){}//@\n");
        check.none("int main(int n){}//@\n`@");
        check.right("int main(int n){}//\r@\n");
        check.none("int main(int n){}// \\\n`@");
        check.none("int main(int n){}//\\\n`@");
        check.right("int main(int n){}//\u000b@");
        check.right("//\nint main(int n){}//");
        check.right("int main(int n){}// /*\n");
        check.none("int main(int n){}// /*\n`*/");
        check.wrong(12, "//int main(int n){}`");
    }

    private void starComments() {
        check.right("int main(int n){}/**/");
        check.right("int main(int n){}/***/");
        check.right("int main(int n){}/*/*/");
        check.right("int main(int n){}/* // \n\r \u0000\u00ff@ ' \" /* **/");
        check.none("int main(int n){}`/*/");
        check.none("int main(int n){}`/*");
        check.none("int main(int n){}`/* *");
        check.none("int main(int n){}`/* * /");
        check.none("int main(int n){}`/*/ ");
        check.none("int main(int n){} /**/`/* ");
        check.none("int main(int n){}/**/`*/");
        check.none("int main(int n){`/*}");
        // Nor is it the mark / with another behind it, where that could stand.
        check.none("int main(int n) { n `/* n; }");
        check.none("int main(int n) { n = n `/*");
        check.none("int main(int n) { n = n `/*/ n; }");
        check.none("int a = 1 `/* 1;");
        check.plain("int main(int n) { n /* */ / n; }", "int main ( int n ) { ( n / n ) ; }");
        check.none("int main(int n) { n / `* n; }");
        // One that has no end can't stand even where the text before it is wrong already.
        check.none("int a; int a; `/*");
    }

    /** A comment parts what would be one token, and no token holds a comment. */
    private void between() {
        check.none("int/**/main(int n){ n +/**/`= 1; }");
        check.plain("int/**/main(int n){ n +/**/+ n; }", "int main ( int n ) { ( n + n ) ; }");
        check.none("`in/**/t main(int n){}");
        check.none("int ma/**/`in(int n){}");
        check.none("int a = 1/**/`2;");
        check.plain("char a[9] = \"/*x*///\"; int main(int n){}", "char a [ 9 ] = \"/*x*///\" ; int main ( int n ) { }");
        check.plain("int main(int n){n=n/ n;/**/n/1;}",
            "int main ( int n ) { ( n = ( n / n ) ) ; ( n / 1 ) ; }");
    }

    private void names() {
        for (String name : new String[] {"a", "z", "A", "Z", "_", "_0", "a9", "__", NAME_OF_24}) {
            check.plain("int " + name + ";" + Check.MAIN, "int " + name + " ; int main ( int n ) { }");
        }
        check.none("int `" + NAME_OF_24 + "x;");
        check.none("int `" + NAME_OF_24 + "0;");
        check.none("int `" + NAME_OF_24 + "_;");
        check.none("int a; `" + NAME_OF_24.repeat(9) + ";");
        check.none("int a[" + NAME_OF_24 + "] = `" + NAME_OF_24 + "a;");
        for (char sign : "@`[{/:#$.\\".toCharArray()) {
            if (sign != '`') {
                check.due("that " + sign + " is no letter", Check.tapeWith("int a" + sign + "a;").read(false), -1);
            }
        }
        check.none("int `0;");
        check.none("int `9a;");
        // All of its letters tell a name from others.
        check.right("int " + NAME_OF_24 + ", " + NAME_OF_24.substring(0, 23) + ", " + NAME_OF_24.substring(0, 23)
            + "4, " + "b" + NAME_OF_24.substring(1) + ";" + Check.MAIN);
        check.wrong(1, "int " + NAME_OF_24 + ", `" + NAME_OF_24 + ";" + Check.MAIN);
        check.right("int a, A, aa, aA, Aa;" + Check.MAIN);
    }

    /** A name that begins as a keyword does, or is written in other letters, is a name. */
    private void keywords() {
        for (String word : ("int char void enum if else while do for switch case default break"
            + " continue return").split(" ")) {
            check.none("int `" + word + ";");
            check.right("int " + word + "_, " + word + "0, _" + word + ", " + word.substring(1) + "1, "
                + word.toUpperCase() + ", " + word.substring(0, word.length() - 1) + ";" + Check.MAIN);
        }
    }

    /** What other languages like C keep for themselves are names like others here. */
    private void noOtherKeywords() {
        for (String word : ("auto bool const double enumerate extern false float goto inline long null NULL register restrict"
            + " short signed sizeof static string struct switched true typedef union unsigned volatile include define").split(" ")) {
            check.plain("int " + word + "; int _" + word + "(int " + word + ") { return " + word + "; }" + Check.MAIN,
                "int " + word + " ; int _" + word + " ( int " + word + " ) { return " + word + " ; } int main ( int n ) { }");
            check.none(word.equals("enumerate") ? "`enumerate { a };" : "`" + word + " int a;");
        }
    }

    private void figures() {
        number("0", "0");
        number("010", "10");
        number("08", "8");
        number("0000000010", "10");
        number("9", "9");
        number("0000000000", "0");
        number("0000000009", "9");
        number("1234567890", "1234567890");
        check.none("int a = `00000000000;");
        check.none("int a = `00000000001;");
        check.none("int a = `12345678901;");
        check.none("int a = `" + "0".repeat(300) + ";");
        check.none("int a = `" + "9".repeat(300) + ";");
        check.none("int a = `42949672950;");
    }

    /** A number ends with its figures; there are no fractions, no powers, no kinds of numbers. */
    private void noSuffixes() {
        for (String number : new String[] {"1", "0", "12", "0x1", "0xf", "'a'"}) {
            for (String suffix : new String[] {"u", "U", "l", "L", "UL", "_", "x1", "g", "'", ".0", ".", "\"\"", "1"}) {
                boolean longer = suffix.equals("1") && !number.endsWith("'") || suffix.equals("x1") && number.equals("0");
                if (!longer) {
                    check.none("int a = " + number + "`" + suffix + ";");
                }
            }
        }
        check.none("int a = 1`e5;");
        check.none("int a = `.5;");
        check.none("int a = 0`b1;");
    }

    private void greatNumbers() {
        number("4294967294", "4294967294");
        number("4294967295", "4294967295");
        number("2147483647", "2147483647");
        number("2147483648", "2147483648");
        check.none("int a = `4294967296;");
        check.none("int a = `4294967297;");
        check.none("int a = `8589934592;");
        check.none("int a = `9999999999;");
    }

    private void hexFigures() {
        number("0x0", "0");
        number("0x9", "9");
        number("0xa", "10");
        number("0xf", "15");
        number("0xA", "10");
        number("0xF", "15");
        number("0x00000000", "0");
        number("0x7fffffff", "2147483647");
        number("0x80000000", "2147483648");
        number("0xFFFFFFFF", "4294967295");
        number("0x12345678", "305419896");
        number("0x9abcdef0", "2596069104");
        number("0x9ABCDEF0", "2596069104");
        check.none("int a = `0x000000000;");
        check.none("int a = `0x100000000;");
        check.none("int a = `0x" + "0".repeat(300) + ";");
        check.none("int a = 0x1`g;");
        check.none("int a = 0x1`G;");
        check.none("int a = 0x12345678`g;");
    }

    private void hexWheneverXComes() {
        check.none("int a = `0x");
        check.none("int a = `0x;");
        check.none("int a = `0x ;");
        check.none("int a = `0xg;");
        check.none("int a = `0xG;");
        check.none("int a = `0x/**/1;");
        check.none("int a = `0xx1;");
        check.none("int a = 0`X1;");
        check.none("int a = 00`x1;");
        check.none("int a = 10`x1;");
        check.none("int a = 1`x1;");
        check.none("int a = 0 `x1;");
        check.none("int a = 0x0`x1;");
    }

    private void characters() {
        for (int sign = 0; sign < 256; sign++) {
            String text = "'" + (char) sign + "'";
            if (sign < 32 || sign > 126 || sign == '\'' || sign == '\\') {
                check.none("int a = `" + text + ";");
            } else if (sign != '`') {
                number(text, Integer.toString(sign));
            }
            String escaped = "'\\" + (char) sign + "'";
            int known = "n0'\\".indexOf(sign);
            if (known >= 0) {
                number(escaped, new String[] {"10", "0", "39", "92"}[known]);
            } else if (sign != '`') {
                check.none("int a = `" + escaped + ";");
            }
        }
        check.none("int a = `'");
        check.none("int a = `'a");
        check.none("int a = `'\\");
        check.none("int a = `'\\n");
        check.none("int a = `'';");
        check.none("int a = `'ab';");
        check.none("int a = `'\\nn';");
        check.none("int a = `'\\00';");
    }

    private void strings() {
        for (int sign = 0; sign < 256; sign++) {
            String text = "\"" + (char) sign + "\"";
            if (sign < 32 || sign > 126 || sign == '\\') {
                check.none("char a[9] = `" + text + ";");
            } else if (sign != '"' && sign != '`') {
                string(text);
            }
            String escaped = "\"\\" + (char) sign + "\"";
            if ("n0\"\\".indexOf(sign) >= 0) {
                string(escaped);
            } else if (sign != '`') {
                check.none("char a[9] = `" + escaped + ";");
            }
        }
        string("\"\"");
        check.none("char a[9] = `\"");
        check.none("char a[9] = `\"a");
        check.none("char a[9] = `\"a\\");
        check.none("char a[9] = `\"a\\\"");
        check.none("char a[9] = `\"a\n\";");
        check.none("char a[9] = \"\"`\"\";");
        check.none("char a[9] = \"\"`\";");
    }

    /** An escaped one is one of the 200. */
    private void longStrings() {
        for (String one : new String[] {"x", "\\n", "\\\"", "\\\\", "'", " "}) {
            String most = one.repeat(200);
            check.right("char a[201] = \"" + most + "\";" + Check.MAIN);
            check.none("char a[300] = `\"" + most + "x\";" + Check.MAIN);
            check.none("char a[300] = `\"" + most + "\\0\";" + Check.MAIN);
            check.none("char a[300] = `\"" + most + one.repeat(300) + "\";" + Check.MAIN);
            check.none("char a[201] = `\"" + most);
            check.none("char a[201] = `\"" + most + "\u0007\";");
        }
        check.right("char a[201] = \"" + "x".repeat(199) + "\\0\";" + Check.MAIN);
        check.none("char a[300] = `\"" + "x".repeat(199) + "\\t\";" + Check.MAIN);
    }

    private void marks() {
        for (String mark : "|| && | ^ & == != < > <= >= << >> + - * / %".split(" ")) {
            inMain("n" + mark + "n;", "( n " + mark + " n ) ;");
        }
        for (String mark : "= += -= *= /= %= <<= >>= &= |= ^=".split(" ")) {
            inMain("n" + mark + "n;", "( n " + mark + " n ) ;");
        }
        for (String mark : "- ! ~ ++ --".split(" ")) {
            inMain(mark + "n;", "( " + mark + " n ) ;");
        }
        inMain("{;}n?n:n;q[n];g(n,n);n++;n--;+n;",
            "{ ; } ( n ? n : n ) ; q [ n ] ; g ( n , n ) ; ( n ++ ) ; ( n -- ) ; n ;");
    }

    private void longestMarks() {
        inMain("n+++n;", "( ( n ++ ) + n ) ;");
        inMain("n---n;", "( ( n -- ) - n ) ;");
        inMain("n+ ++n;", "( n + ( ++ n ) ) ;");
        inMain("n- --n;", "( n - ( -- n ) ) ;");
        inMain("n- -n;", "( n - ( - n ) ) ;");
        inMain("n<-n;", "( n < ( - n ) ) ;");
        inMain("n<<-n;", "( n << ( - n ) ) ;");
        inMain("n!=!n;", "( n != ( ! n ) ) ;");
        inMain("n=!n;", "( n = ( ! n ) ) ;");
        inMain("n=~n;", "( n = ( ~ n ) ) ;");
        inMain("n==-n;", "( n == ( - n ) ) ;");
        inMain("n*=-n;", "( n *= ( - n ) ) ;");
        inMain("n/=n;", "( n /= n ) ;");
        noneInMain("n+ `=n;");
        noneInMain("n< `<n;");
        noneInMain("n<< `=n;");
        noneInMain("n<<`<n;");
        noneInMain("n>>`>n;");
        noneInMain("n>>`>=n;");
        noneInMain("n&&`=n;");
        noneInMain("n||`|n;");
        noneInMain("n|| `|n;");
        noneInMain("n==`=n;");
        noneInMain("n`!n;");
        noneInMain("n<=`=n;");
        noneInMain("n++`++;");
        noneInMain("n++`++n;");
        noneInMain("n= `=n;");
        noneInMain("n^`^n;");
        noneInMain("n%`%n;");
        noneInMain("n`~n;");
        noneInMain("n=`<n;");
        noneInMain("n=`>n;");
    }

    /** What is no token at all, alone and behind what can stand. */
    private void otherBytes() {
        for (int sign = 0; sign < 256; sign++) {
            boolean other = sign < 32 && sign != 9 && sign != 10 && sign != 13 || sign > 126;
            if (other || "@#$.\\`".indexOf(sign) >= 0) {
                HomeReader reader = Check.tapeWith("int main(int n) { n = n" + (char) sign + "++; }");
                check.due("read with " + sign, reader.read(false), HomeReader.NONE);
                check.due("place with " + sign, reader.place(), 24);
            }
        }
    }

    private void wrapping() {
        check.plain("int a = 2147483647, b = 2147483648, c = 4294967295, d = 0x80000000;" + Check.MAIN,
            "int a = 2147483647 , b = - 2147483648 , c = - 1 , d = - 2147483648 ; int main ( int n ) { }");
        check.plain("enum { A = 2147483648, B = 4294967295, C };" + Check.MAIN,
            "enum { A = - 2147483648 , B = - 1 , C = 0 } ; int main ( int n ) { }");
        check.wrong(8, "int a[`2147483648];" + Check.MAIN);
        check.right("int a[4294967295 + 2];" + Check.MAIN);
        check.right("int a[2147483648 < 0], b[2147483647 > 0], c[4294967295 == -1], d[0xffffffff + 2];" + Check.MAIN);
        check.wrong(10, "int main(int n) { switch (n) { case 4294967295: `case -1: ; } }");
        check.wrong(10, "int main(int n) { switch (n) { case -2147483648: `case 2147483648: ; } }");
        check.right("int main(int n) { switch (n) { case 2147483647: case 2147483648: ; } }");
    }

    /** An earlier token that the grammar has no place for is told, not a later one that is none. */
    private void firstThatCannotStand() {
        check.none("int a `b @;");
        check.none("int a = `= 99999999999;");
        check.none("int `int @;");
        check.none("`) \"");
        check.none("int a `@ b;");
        check.none("`'");
        check.none("`\"");
        check.none("`@");
        check.none("`0x");
    }

    private void number(String text, String wanted) {
        inMain("n=" + text + ";", "( n = " + wanted + " ) ;");
    }

    private void string(String text) {
        check.plain("char a[3]=" + text + ";" + Check.MAIN, "char a [ 3 ] = " + text + " ; int main ( int n ) { }");
    }

    private void inMain(String statements, String wanted) {
        check.plain("int q[3];void g(int a,int b){}int main(int n){" + statements + "}",
            "int q [ 3 ] ; void g ( int a , int b ) { } int main ( int n ) { " + wanted + " }");
    }

    private void noneInMain(String statements) {
        check.none("int main(int n){" + statements + "}");
    }
}
