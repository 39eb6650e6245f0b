/** Promises 7 to 11: HEIGHT, FRAME and the plain form at their bounds. */
public final class FormEdgesTest {
    private static final String GIVEN = "int r[3]; char s[3]; enum { K = 2 }; int g() { } int f(int a) { }"
        + " int w(int a, int b) { } int t(int a[], int b, char c[], int d) { } int main(int n) { ";
    private static final String[] BETWEEN = "|| && | ^ & == != < > <= >= << >> + - * / %".split(" ");
    private static final String[] ASSIGNING = "= += -= *= /= %= <<= >>= &= |= ^=".split(" ");
    private final Check check = new Check();

    public static void main(String[] args) {
        FormEdgesTest test = new FormEdgesTest();
        test.heightsOfOne();
        test.heightsOfOperators();
        test.heightsOfAssignments();
        test.heightsOfCalls();
        test.heightsOfKs();
        test.greatestHeight();
        test.declaredAnywhere();
        test.sizesOfArrays();
        test.wordsOfTheText();
        test.ksAreOneNumber();
        test.ksAtTheirBounds();
        test.ksOfAllOperators();
        test.noKs();
        test.numbersInTens();
        test.brackets();
        test.operatorsOfOneSort();
        test.noPlus();
        test.allElseStays();
        test.plainFormOfThePlainForm();
        test.check.close();
    }

    private void heightsOfOne() {
        for (String one : "n 1 'a' K (n) ((1)) -n +n !n ~n ++n --n n++ n-- r[1] r[n] s[K] (r[n])++ --r[n] -(-n) g() (g())".split(" ")) {
            height(1, one);
            height(1, "(" + one + ")");
            height(2, "n + " + one);
            height(1, one + " ? " + one + " : " + one);
        }
    }

    private void heightsOfOperators() {
        for (String operator : BETWEEN) {
            height(2, "n " + operator + " n");
            height(2, "n " + operator + " n " + operator + " n " + operator + " n");
            height(3, "n " + operator + " (n " + operator + " n)");
            height(4, "n " + operator + " (n " + operator + " (n " + operator + " n))");
            height(2, "((n " + operator + " n) " + operator + " n) " + operator + " n");
            height(2, "(n - n) " + operator + " n");
            height(2, "(n & n) " + operator + " n");
            height(3, "n " + operator + " (n ? n : n + 1)");
            height(3, "(n + (n + n)) " + operator + " n");
            height(3, "n " + operator + " n " + operator + " (n ? n + n : n)");
        }
        for (String operator : "- + ! ~".split(" ")) {
            height(2, operator + " (n + n)");
            height(3, "n + " + operator + " (n + n)");
            height(2, operator + " r[n + n]");
        }
        for (String step : "++ --".split(" ")) {
            height(2, step + " r[n + n]");
            height(2, "r[n + n]" + step);
            height(3, "(r[n + (n + n)])" + step);
            height(3, "n + r[n + n]" + step);
        }
        height(2, "r[n + n]");
        height(3, "r[r[n + (n + n)]]");
        height(3, "n + n ? n : n + (n + n)");
        height(3, "n + n ? n + (n + n) : n");
        height(3, "n + (n + n) ? n + n : n + n");
    }

    private void heightsOfAssignments() {
        for (String operator : ASSIGNING) {
            height(1, "n " + operator + " 1");
            height(2, "n " + operator + " n + 1");
            height(1, "n " + operator + " n = 1");
            height(2, "r[1] " + operator + " 1");
            height(2, "(s[n]) " + operator + " 1");
            height(3, "r[1] " + operator + " n + 1");
            height(3, "r[n + (1 + 2)] " + operator + " 1");
            height(2, "r[n + 1] " + operator + " 1");
            height(3, "r[n + 1] " + operator + " n + 1");
            height(3, "r[1] " + operator + " r[1] " + operator + " 1");
            height(2, "n " + operator + " r[1] " + operator + " 1");
            height(2, "r[1] " + operator + " n " + operator + " 1");
            height(3, "n + (r[1] " + operator + " 1)");
        }
    }

    private void heightsOfCalls() {
        height(1, "f(1)");
        height(2, "f(n + 1)");
        height(2, "w(1, 1)");
        height(2, "w(n + 1, 1)");
        height(3, "w(1, n + 1)");
        height(3, "w(n + (1 + 1), 1)");
        height(2, "len(r)");
        height(2, "len((s))");
        height(3, "get(1, r)");
        height(6, "t(r, 1, s, 1)");
        height(6, "t(r, n + 1, s, 1)");
        height(7, "t(r, 1, s, n + 1)");
        height(6, "t(r, n + (1 + (1 + 1)), s, 1)");
        height(7, "t(r, n + (1 + (1 + (1 + 1))), s, 1)");
        height(2, "w(g(), g())");
        height(3, "w(1, w(1, 1))");
        height(2, "w(w(1, 1), 1)");
        height(4, "w(1, w(1, w(1, 1)))");
        height(3, "n + w(1, 1)");
        height(3, "host(1, 1, 1)");
        height(4, "host(1, 1, n + 1)");
        height(2, "r[w(1, 1)]");
    }

    private void heightsOfKs() {
        height(1, "control(1 + (1 + (1 + 1)))");
        height(2, "setcontrol(1 + (1 + (1 + 1)), 1)");
        height(3, "setcontrol(K, n + 1)");
        frame(0, "switch (0) { case 1 + (1 + 1): ; }", 1);
        frame(1, "int a[1 + (1 + 0)];", 1);
        frame(2, "int a[2] = { 1 + (1 + 1), 2 };", 0);
        frame(3, "char a[9] = \"abcdefg\";", 0);
        HomeReader reader = Check.tapeWith("int a = 1 + (2 + (3 + 4)); enum { A = 1 + (2 + 3) };" + Check.MAIN);
        reader.read(false);
        check.due("frame of main behind the text's own k's", reader.function(0, 2), 5);
    }

    private void greatestHeight() {
        String[] places = {"X;", "if (X) ;", "if (n) X;", "if (n) ; else X;", "while (X) ;", "while (n) X;", "do X; while (n);",
            "do ; while (X);", "for (X;;) ;", "for (; X;) ;", "for (;; X) ;", "for (;;) X;", "switch (X) { }",
            "switch (n) { case 1: X; }", "return X;", "{ { X; } }", "n; X;", "X; n;", "X; X;", "n + n; X; n;"};
        for (String place : places) {
            frame(0, place.replace("X", "n + (n + n)"), 3);
            frame(0, place.replace("X", "n + (n + (n + n))"), 4);
        }
        frame(1, "int a = n + (n + n);", 3);
        frame(2, "char a = n, b = n + (n + n);", 3);
        frame(1, "for (int a = n + (n + n);;) ;", 3);
        for (String nothing : new String[] {"", ";", "{ }", "{ ; }", "for (;;) ;", "for (;;) break;"}) {
            frame(0, nothing, 0);
        }
        frame(1, "int a;", 0);
        frame(0, "return 0;", 1);
    }

    private void declaredAnywhere() {
        frame(1, "int a;", 0);
        frame(1, "char a;", 0);
        frame(2, "int a; char b;", 0);
        frame(3, "int a, b, d;", 0);
        frame(2, "{ int a; } { int a; }", 0);
        frame(2, "if (n) int a; else int b;", 1);
        frame(1, "while (n) int a;", 1);
        frame(1, "do int a; while (n);", 1);
        frame(3, "for (int a, b;;) int d;", 0);
        frame(2, "switch (n) { case 1: int a; default: { char b; } }", 1);
        parameters(0, "void");
        parameters(0, "");
        parameters(1, "int a");
        parameters(1, "char a");
        parameters(2, "int a[]");
        parameters(2, "char a[]");
        parameters(6, "int a, char b, int d[], char e[]");
        parameters(40, "int a" + arrays());
    }

    /** Nineteen arrays and one int more than the first. */
    private static String arrays() {
        StringBuilder arrays = new StringBuilder();
        for (int i = 0; i < 19; i++) {
            arrays.append(", char b").append(i).append("[]");
        }
        return arrays.append(", int b").toString();
    }

    private void parameters(int words, String parameters) {
        HomeReader reader = Check.tapeWith("int f(" + parameters + ") { }" + Check.MAIN);
        check.due("read with " + parameters, reader.read(false), 0);
        check.due("frame with " + parameters, reader.function(0, 2), 4 + words);
        boolean none = parameters.isEmpty() || parameters.equals("void");
        check.due("count of " + parameters, reader.function(0, 1), none ? 0 : parameters.split(",").length);
    }

    private void sizesOfArrays() {
        int[] sizes = {1, 2, 3, 4, 5, 7, 8, 9, 4092, 4093, 4095, 4096};
        for (int size : sizes) {
            frame(size, "int a[" + size + "];", 0);
            frame((size + 3) / 4, "char a[" + size + "];", 0);
            frame(size + (size + 3) / 4, "{ int a[" + size + "]; } for (char a[" + size + "];;) ;", 0);
            words(size, "int a[" + size + "];");
            words((size + 3) / 4, "char a[" + size + "];");
        }
        frame(3, "char a[1], b[1], d[1];", 0);
        words(3, "char a[1], b[1], d[1];");
    }

    private void wordsOfTheText() {
        words(0, "");
        words(0, "enum { A, B, C };");
        words(0, "int f(int a, int b[]) { int d, e[9]; }");
        words(1, "int a;");
        words(1, "char a = 1 + (2 + (3 + 4));");
        words(3, "int a, b; char d;");
        words(5, "int a[3] = { 1 }; char b[5] = \"ab\";");
        words(8192, "int a[4096], b[4096];");
    }

    private void words(int wanted, String items) {
        HomeReader reader = Check.tapeWith(items + Check.MAIN);
        check.due("read of " + items, reader.read(false), 0);
        check.due("words of " + items, reader.words(), wanted);
    }

    private void ksAreOneNumber() {
        String[] ks = {"1 + 2 * 3", "(7)", "+ 7", "'a' - 90", "K + 5", "-(-7)", "K ? 7 : K", "0x7", "0000000007", "15 >> 1"};
        for (String k : ks) {
            items("int a[" + k + "];", "int a [ 7 ] ;");
            items("char a[7] = { " + k + ", 1 };", "char a [ 7 ] = { 7 , 1 } ;");
            items("int a = " + k + ", b = 1; char c = " + k + ";", "int a = 7 , b = 1 ; char c = 7 ;");
            items("enum { A = " + k + ", B };", "enum { A = 7 , B = 8 } ;");
            inMain("switch (n) { case " + k + ": ; }", "switch ( n ) { case 7 : ; }");
            inMain("int a[" + k + "] = { " + k + " };", "int a [ 7 ] = { 7 } ;");
            inMain("control(" + k + "); setcontrol(" + k + ", n);", "control ( 7 ) ; setcontrol ( 7 , n ) ;");
        }
    }

    private void ksAtTheirBounds() {
        String[][] ks = {{"0", "0"}, {"-0", "0"}, {"-1", "- 1"}, {"1", "1"}, {"2147483647", "2147483647"},
            {"2147483648", "- 2147483648"}, {"-2147483648", "- 2147483648"}, {"-2147483647", "- 2147483647"},
            {"4294967295", "- 1"}, {"2147483647 + 1", "- 2147483648"}, {"-2147483647 - 2", "2147483647"},
            {"-(-2147483648)", "- 2147483648"}, {"-2147483648 * -1", "- 2147483648"}, {"0 - 2147483648", "- 2147483648"},
            {"65536 * 65536", "0"}, {"65535 * 65537", "- 1"}, {"46341 * 46341", "- 2147479015"},
            {"-2147483648 / -1", "- 2147483648"}, {"-2147483648 % -1", "0"}, {"7 / 2", "3"}, {"-7 / 2", "- 3"}, {"7 / -2", "- 3"},
            {"-7 / -2", "3"}, {"7 % 2", "1"}, {"-7 % 2", "- 1"}, {"7 % -2", "1"}, {"-7 % -2", "- 1"}, {"-1 / 2", "0"},
            {"1 << 0", "1"}, {"1 << 31", "- 2147483648"}, {"1 << 32", "1"}, {"1 << 33", "2"}, {"1 << -1", "- 2147483648"},
            {"1 << 63", "- 2147483648"}, {"3 << 31", "- 2147483648"}, {"-1 >> 31", "- 1"}, {"-1 >> 32", "- 1"},
            {"-8 >> 1", "- 4"}, {"-8 >> 33", "- 4"}, {"-8 >> -31", "- 4"}, {"2147483648 >> 31", "- 1"},
            {"2147483647 >> 30", "1"}, {"2147483647 >> 31", "0"}, {"~0", "- 1"}, {"~2147483647", "- 2147483648"},
            {"!0", "1"}, {"!1", "0"}, {"!2147483648", "0"}, {"-1 < 0", "1"}, {"4294967295 < 0", "1"}, {"0 < 0", "0"},
            {"0 <= 0", "1"}, {"0 > 0", "0"}, {"0 >= 0", "1"}, {"1 <= 0", "0"}, {"0 >= 1", "0"}, {"2147483648 < 2147483647", "1"},
            {"-2147483648 > 2147483647", "0"}, {"-1 == 4294967295", "1"}, {"1 != 2", "1"}, {"2 != 2", "0"}, {"2 == 3", "0"},
            {"2 && 4", "1"}, {"4 && 0", "0"}, {"0 && 4", "0"}, {"0 || 0", "0"}, {"0 || 4", "1"}, {"4 || 0", "1"}, {"2 || 3 || 0", "1"},
            {"6 & 3", "2"}, {"6 | 3", "7"}, {"6 ^ 3", "5"}, {"-1 & 255", "255"}, {"-1 ? 1 : 2", "1"}, {"0 ? 1 : 2", "2"},
            {"9 - 3 - 2", "4"}, {"9 - (3 - 2)", "8"}, {"64 / 8 / 2", "4"}, {"64 / (8 / 2)", "16"}, {"1 << 2 << 3", "32"},
            {"3 > 2 > 1", "0"}, {"2 == 2 == 2", "0"}, {"2 + 3 * 4", "14"}, {"1 | 6 & 4 ^ 5", "1"}, {"8 >> 1 + 1", "2"},
            {"1 < 2 == 1", "1"}, {"4 & 4 == 4", "0"}, {"0 && 0 || 1", "1"}, {"1 || 1 && 0", "1"}, {"7 % 4 * 2", "6"},
            {"1 ? 2 : 0 ? 3 : 4", "2"}, {"-7 >> 1", "- 4"}, {"100 * 3 % 7", "6"}};
        for (String[] k : ks) {
            items("int a = " + k[0] + ";", "int a = " + k[1] + " ;");
            items("enum { A = " + k[0] + " };", "enum { A = " + k[1] + " } ;");
        }
        items("enum { A = 2147483646, B, C, D };", "enum { A = 2147483646 , B = 2147483647 , C = - 2147483648 , D = - 2147483647 } ;");
        items("enum { A = -2, B, C, D };", "enum { A = - 2 , B = - 1 , C = 0 , D = 1 } ;");
        items("enum { A, B }; enum { C, D };", "enum { A = 0 , B = 1 } ; enum { C = 0 , D = 1 } ;");
        items("enum { A, B = 5, C, D = A, E };", "enum { A = 0 , B = 5 , C = 6 , D = 0 , E = 1 } ;");
    }

    /** Each operator between two over numbers at the bounds of an int, each written as it can be. */
    private void ksOfAllOperators() {
        int[] numbers = {0, 1, -1, 2, 3, -3, 7, -7, 31, 32, 33, 65536, Integer.MAX_VALUE, Integer.MIN_VALUE, Integer.MIN_VALUE + 1};
        for (String operator : BETWEEN) {
            StringBuilder text = new StringBuilder();
            StringBuilder wanted = new StringBuilder();
            int many = 0;
            for (int left : numbers) {
                for (int right : numbers) {
                    boolean divides = operator.equals("/") || operator.equals("%");
                    if (!divides || right != 0) {
                        text.append("int a").append(many).append("=").append(left).append(operator).append("(")
                            .append(right & 0xFFFFFFFFL).append(");");
                        wanted.append("int a").append(many).append(" = ").append(inTens(made(operator, left, right))).append(" ; ");
                        many++;
                    }
                }
            }
            HomeReader reader = Check.tapeWith(text + Check.MAIN);
            wanted.append("int main ( int n ) { }");
            check.due("read of all with " + operator, reader.read(false), 0);
            check.due("length of all with " + operator, reader.length(), wanted.length());
            check.due("mark of all with " + operator, reader.mark(), wanted.toString().hashCode());
        }
    }

    private static String inTens(int number) {
        return number < 0 ? "- " + -(long) number : Integer.toString(number);
    }

    private static int made(String operator, int left, int right) {
        switch (operator) {
            case "||": return left != 0 || right != 0 ? 1 : 0;
            case "&&": return left != 0 && right != 0 ? 1 : 0;
            case "|": return left | right;
            case "^": return left ^ right;
            case "&": return left & right;
            case "==": return left == right ? 1 : 0;
            case "!=": return left != right ? 1 : 0;
            case "<": return left < right ? 1 : 0;
            case ">": return left > right ? 1 : 0;
            case "<=": return left <= right ? 1 : 0;
            case ">=": return left >= right ? 1 : 0;
            case "<<": return left << right;
            case ">>": return left >> right;
            case "+": return left + right;
            case "-": return left - right;
            case "*": return left * right;
            case "/": return left / right;
            default: return left % right;
        }
    }

    /** What is behind = in a function, or an argument of others, is no k. */
    private void noKs() {
        inMain("int a = 1 + 2, b = -1, d = K;", "int a = ( 1 + 2 ) , b = ( - 1 ) , d = K ;");
        inMain("n = 1 + 2; put(1 + 2); r[1 + 1]; return -1;",
            "( n = ( 1 + 2 ) ) ; put ( ( 1 + 2 ) ) ; r [ ( 1 + 1 ) ] ; return ( - 1 ) ;");
        inMain("switch (1 + 2) { } if (-1) ; setcontrol(1, 1 + 2);",
            "switch ( ( 1 + 2 ) ) { } if ( ( - 1 ) ) ; setcontrol ( 1 , ( 1 + 2 ) ) ;");
        inMain("for (int a = 1 + 2;;) ;", "for ( int a = ( 1 + 2 ) ; ; ) ;");
        String own = "int control(int a) { } int main(int n) { control(1 + 2); }";
        HomeReader reader = Check.tapeWith(own);
        check.due("read of its own control", reader.read(false), 0);
        check.due("plain form of its own control", Check.plainOf(reader),
            "int control ( int a ) { } int main ( int n ) { control ( ( 1 + 2 ) ) ; }");
    }

    private void numbersInTens() {
        String[][] numbers = {{"0", "0"}, {"00", "0"}, {"9", "9"}, {"10", "10"}, {"0x10", "16"}, {"100", "100"}, {"1000000000", "1000000000"},
            {"999999999", "999999999"}, {"2147483647", "2147483647"}, {"2147483648", "2147483648"}, {"4294967295", "4294967295"},
            {"0xffffffff", "4294967295"}, {"0x80000000", "2147483648"}, {"' '", "32"}, {"'~'", "126"}, {"'\\0'", "0"}, {"'\\n'", "10"}};
        for (String[] number : numbers) {
            inMain(number[0] + ";", number[1] + " ;");
            inMain("return " + number[0] + ";", "return " + number[1] + " ;");
        }
    }

    private void brackets() {
        inMain("n; (n); ((n));", "n ; n ; n ;");
        inMain("1; 'a'; r[n];", "1 ; 97 ; r [ n ] ;");
        inMain("g(); (g()); f((n)); w(n, (1));", "g ( ) ; g ( ) ; f ( n ) ; w ( n , 1 ) ;");
        inMain("len((r)); r[(n)];", "len ( r ) ; r [ n ] ;");
        inMain("n = 1; (n = 1); ((n) = (1));", "( n = 1 ) ; ( n = 1 ) ; ( n = 1 ) ;");
        inMain("n ? 1 : 2; (n ? 1 : 2); (n) ? (1) : (2);", "( n ? 1 : 2 ) ; ( n ? 1 : 2 ) ; ( n ? 1 : 2 ) ;");
        inMain("-n; (-n); -(n); n++; (n++); (n)++; ++n; ++(n);",
            "( - n ) ; ( - n ) ; ( - n ) ; ( n ++ ) ; ( n ++ ) ; ( n ++ ) ; ( ++ n ) ; ( ++ n ) ;");
        inMain("if (n) ; if ((n)) ; if (n + 1) ; if ((n + 1)) ;",
            "if ( n ) ; if ( n ) ; if ( ( n + 1 ) ) ; if ( ( n + 1 ) ) ;");
        inMain("f(n + 1); r[n + 1]; return (n + 1);", "f ( ( n + 1 ) ) ; r [ ( n + 1 ) ] ; return ( n + 1 ) ;");
        inMain("- -n; - - -n; !~n; -n++; - --n;",
            "( - ( - n ) ) ; ( - ( - ( - n ) ) ) ; ( ! ( ~ n ) ) ; ( - ( n ++ ) ) ; ( - ( -- n ) ) ;");
    }

    private void operatorsOfOneSort() {
        String[] sorts = {"||", "&&", "|", "^", "&", "== !=", "< > <= >=", "<< >>", "+ -", "* / %"};
        for (String sort : sorts) {
            for (String first : sort.split(" ")) {
                for (String second : BETWEEN) {
                    boolean same = (" " + sort + " ").contains(" " + second + " ");
                    String left = "( n " + first + " n )";
                    inMain("(n " + first + " n) " + second + " n;",
                        "( " + (same ? "n " + first + " n" : left) + " " + second + " n ) ;");
                    inMain("n " + second + " (n " + first + " n);", "( n " + second + " " + left + " ) ;");
                    if (same) {
                        inMain("n " + first + " n " + second + " n;", "( n " + first + " n " + second + " n ) ;");
                        inMain("+ (n " + first + " n) " + second + " n;", "( n " + first + " n " + second + " n ) ;");
                        inMain("- (n " + first + " n) " + second + " n;", "( ( - " + left + " ) " + second + " n ) ;");
                        inMain("n " + second + " + (n " + first + " n);", "( n " + second + " " + left + " ) ;");
                    }
                }
            }
        }
        // From the loosest to the closest: the closer one is an operand of the looser one.
        for (int i = 0; i < sorts.length; i++) {
            for (int j = i + 1; j < sorts.length; j++) {
                String loose = sorts[i].split(" ")[0];
                for (String close : sorts[j].split(" ")) {
                    inMain("n " + loose + " n " + close + " n;", "( n " + loose + " ( n " + close + " n ) ) ;");
                    inMain("n " + close + " n " + loose + " n;", "( ( n " + close + " n ) " + loose + " n ) ;");
                }
            }
        }
    }

    private void noPlus() {
        inMain("+n; + +n; +(+n); +1; +(n + 1); -+n; +-n; + ++n; +n++;",
            "n ; n ; n ; 1 ; ( n + 1 ) ; ( - n ) ; ( - n ) ; ( ++ n ) ; ( n ++ ) ;");
        inMain("n + +n; n - +n; +n + +n; n = +n; f(+n); r[+n];",
            "( n + n ) ; ( n - n ) ; ( n + n ) ; ( n = n ) ; f ( n ) ; r [ n ] ;");
    }

    private void allElseStays() {
        items("int f() { } void h(void) { } char k(int a, char b, int c[], char d[]) { }",
            "int f ( void ) { } void h ( void ) { } char k ( int a , char b , int c [ ] , char d [ ] ) { }");
        items("char a[9] = \"\", b[9] = \" a  b \", c[9] = \"\\n\\0\\\"\\\\'//\";",
            "char a [ 9 ] = \"\" , b [ 9 ] = \" a  b \" , c [ 9 ] = \"\\n\\0\\\"\\\\'//\" ;");
        inMain("if (n) ; else if (n) ; else ; while (n) ; do ; while (n); for (;;) ; for (n; n; n) n;",
            "if ( n ) ; else if ( n ) ; else ; while ( n ) ; do ; while ( n ) ; for ( ; ; ) ; for ( n ; n ; n ) n ;");
        inMain("for (int a, b = 1, d[2] = {1};;) { break; } switch (n) { } { } ; return 1;",
            "for ( int a , b = 1 , d [ 2 ] = { 1 } ; ; ) { break ; } switch ( n ) { } { } ; return 1 ;");
        inMain("switch (n) { default: case 1: case 2: break; ; }", "switch ( n ) { default : case 1 : case 2 : break ; ; }");
    }

    private void plainFormOfThePlainForm() {
        String text = GIVEN + "n = -1; r[1] = n ? +n : ~n; for (;;) { continue; } switch (n) { case -1: n++; } }";
        HomeReader reader = Check.tapeWith(text);
        check.due("read", reader.read(false), 0);
        int length = reader.length();
        int mark = reader.mark();
        check.due("again", reader.again(), true);
        check.due("read of the plain form", reader.read(false), 0);
        check.due("length of the plain form's", reader.length(), length);
        check.due("mark of the plain form's", reader.mark(), mark);
    }

    private void height(int wanted, String expression) {
        frame(0, expression + ";", wanted);
    }

    /** What is declared in it takes so many words, and so high is what is worked out. */
    private void frame(int words, String statements, int height) {
        HomeReader reader = Check.tapeWith(GIVEN + statements + " }");
        check.due("read of " + statements, reader.read(true), 0);
        check.due("frame of " + statements, reader.function(4, 2), 5 + words + height);
    }

    private void items(String items, String wanted) {
        String given = "enum { K = 2 } ; ";
        check.plain(given + items + Check.MAIN, given + wanted + " int main ( int n ) { }");
    }

    private void inMain(String statements, String wanted) {
        String given = "int r [ 3 ] ; enum { K = 2 } ; int g ( void ) { } int f ( int a ) { } int w ( int a , int b ) { }"
            + " int main ( int n ) { ";
        check.plain(given + statements + " }", given + wanted + " }");
    }
}
