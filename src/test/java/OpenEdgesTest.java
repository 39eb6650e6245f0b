/**
 * Promises 4 and 5: for each sort of what is OPEN the 60th and the 61st, where it is closed, and
 * the DEPTH with which what is OPEN may just not come to 60.
 */
public final class OpenEdgesTest {
    private static final String AHEAD = "int f(int a) {} int g(int a, int b) {} int h() {} int n[3]; int main(int x) {";
    private static final String[] BETWEEN = "|| && | ^ & == != < > <= >= << >> + - * / %".split(" ");
    private static final String[] ASSIGNING = "= += -= *= /= %= <<= >>= &= |= ^=".split(" ");
    private static final String[] UNARY = "- + ! ~ ++ --".split(" ");
    private final Check check = new Check();

    public static void main(String[] args) {
        OpenEdgesTest test = new OpenEdgesTest();
        test.brackets();
        test.bracketsOutsideOfFunctions();
        test.unary();
        test.statements();
        test.sixtiethWithoutItsBracket();
        test.betweenAndAssigning();
        test.choice();
        test.closedBrackets();
        test.closedOperators();
        test.openToTheEnd();
        test.elseToTheEnd();
        test.closedStatements();
        test.depthAtEachOperator();
        test.depthOfEachExpression();
        test.depthOfChains();
        test.depthOfKs();
        test.noOperators();
        test.check.close();
    }

    private void brackets() {
        sixty(59, "{ }");
        sixtyOne(60, "`{ }");
        sixty(59, "(x); n[1]; f(1); h(); int y[1], z[1];");
        sixty(58, "((x)); n[h()]; f((1)); int y[n[1]];");
        sixtyOne(60, "`(x);");
        sixtyOne(60, "n`[1];");
        sixtyOne(60, "f`(1);");
        sixtyOne(60, "h`();");
        sixtyOne(60, "int y`[1];");
        sixtyOne(59, "f(`(1));");
        sixtyOne(59, "n[h`()];");
        sixtyOne(59, "int y[n`[1]];");
        sixty(58, "int y[1] = { (1) };");
        sixtyOne(59, "int y[1] = { `(1) };");
        sixty(59, "int y[2] = { 1, 1 }, z;");
        sixty(60, "x; 1; ; int y, z = 1; break; continue; return; return x;");
    }

    /** The text itself has nothing OPEN. */
    private void bracketsOutsideOfFunctions() {
        outside("enum { A = ", "1", " };", 1);
        outside("int a[", "1", "];", 1);
        outside("int a[1] = {", "1", "};", 1);
        outside("int a[2] = {1, ", "1", "};", 1);
        outside("int a = ", "1", ";", 0);
        outside("int a = 1, b = ", "1", ";", 0);
        outside("int f(int a[], char b[], int c) {} enum { A } ; int a[1] = {1}, b = ", "1", ";", 0);
        outside("void f(int a) { ", "1", "; }", 1);
        outside("void f(int a) { return ", "1", "; }", 1);
        outside("void f(int a) { int a[", "1", "]; }", 2);
        outside("void f(int a) { int a[1] = {", "1", "}; }", 2);
        outside("void f(int a) { if (", "1", ") ; }", 3);
        outside("void f(int a) { while (", "1", ") ; }", 3);
        outside("void f(int a) { do ; while (", "1", "); }", 3);
        outside("void f(int a) { for (", "1", ";;) ; }", 3);
        outside("void f(int a) { for (;", "1", ";) ; }", 3);
        outside("void f(int a) { for (;;", "1", ") ; }", 3);
        outside("void f(int a) { for (int i = ", "1", ";;) ; }", 3);
        outside("void f(int a) { for (int i[", "1", "];;) ; }", 4);
        outside("void f(int a) { switch (", "1", ") { } }", 3);
        outside("void f(int a) { switch (a) { case ", "1", ": ; } }", 3);
    }

    private void unary() {
        for (String operator : UNARY) {
            sixty(59, operator + " x;");
            sixty(60, "x;");
            sixtyOne(60, "`" + operator + " x;");
            sixtyOne(59, operator + " `- x;");
            sixtyOne(59, "- `" + operator + " x;");
            sixty(58, operator + " (x);");
            sixtyOne(59, operator + " `(x);");
            sixty(58, operator + " n[1];");
            sixtyOne(59, operator + " n`[1];");
            sixtyOne(59, operator + " f`(1);");
        }
    }

    private void statements() {
        sixty(58, "if (x) ;");
        sixty(58, "if (x) ; else ;");
        sixty(58, "while (x) ;");
        sixty(58, "do ; while (x);");
        sixty(58, "for (;;) ;");
        sixty(58, "for (x; x; x) ;");
        sixty(58, "for (int i = 1, j; x; x) ;");
        sixty(58, "switch (x) { }");
        sixty(58, "switch (x) { case 1: default: ; }");
        for (String first : "if while do for switch".split(" ")) {
            sixtyOne(60, "`" + first + " (x) ;");
        }
    }

    /** The place is that of the 61st, not that of the 60th with which no text can go on. */
    private void sixtiethWithoutItsBracket() {
        for (String first : "if while for switch".split(" ")) {
            sixtyOne(59, first + " `(x) ;");
            sixtyOne(59, first + "`");
            sixtyOne(59, first + " `@");
        }
        sixtyOne(59, "do ; while `(x);");
        sixtyOne(59, "do `");
        sixtyOne(59, "do ; `");
        sixtyOne(58, "switch (x`");
        sixtyOne(60, "int y`[");
    }

    /** At most the 59th: what such an operator takes on its left is 1 deep. */
    private void betweenAndAssigning() {
        for (String operator : BETWEEN) {
            sixty(58, "x " + operator + " x;");
            sixtyOne(59, "x `" + operator + " x;");
            sixtyOne(60, "x `" + operator + " x;");
            sixty(58, "x " + operator + " - x;");
            sixtyOne(58, "x " + operator + " - `- x;");
            sixtyOne(58, "x " + operator + " - `(x);");
            sixty(58, "x " + operator + " (x);");
            sixtyOne(58, "x " + operator + " (`(x));");
            sixtyOne(58, "x " + operator + " f(f`(1));");
        }
        for (String operator : ASSIGNING) {
            sixty(58, "x " + operator + " x;");
            sixtyOne(59, "x `" + operator + " x;");
            sixtyOne(60, "x `" + operator + " x;");
            sixty(57, "x " + operator + " x = x;");
            sixtyOne(58, "x " + operator + " x `= x;");
            sixty(58, "x " + operator + " - x;");
            sixtyOne(58, "x " + operator + " - `- x;");
            sixtyOne(58, "x " + operator + " n[n`[1]];");
        }
    }

    private void choice() {
        sixty(58, "x ? x : x;");
        sixtyOne(59, "x `? x : x;");
        sixtyOne(60, "x `? x : x;");
        sixty(58, "x ? - x : - x;");
        sixtyOne(58, "x ? - `- x : x;");
        sixtyOne(58, "x ? x : - `- x;");
        sixty(57, "x ? x ? x : x : x ? x : x;");
        sixtyOne(58, "x ? x `? x : x : x;");
        sixtyOne(58, "x ? x : x `? x : x;");
        sixtyOne(58, "x ? x `= x : x;");
        sixtyOne(58, "x ? x : x `+ x;");
        sixty(57, "x ? x = x : x + x;");
    }

    /** Behind its end a bracket counts no more. */
    private void closedBrackets() {
        sixty(58, "g((x), (x));");
        sixty(58, "g(n[1], n[1]);");
        sixty(58, "g(f(1), h());");
        sixty(59, "(x); n[1]; f(1); { } int y[1] = {1}, z[1] = {1}; { }");
        sixty(56, "x = (x) + (x) + (x);");
        sixty(57, "n[1] = (x);");
        sixty(58, "int y[(1)] = {(1), (1)}, z[(1)];");
        sixty(57, "(x)++; n[1]--; f(1) + 1;");
        sixtyOne(58, "g((x), (`(x)));");
    }

    /** Behind its operand an operator counts no more, nor ? behind its c. */
    private void closedOperators() {
        String[] closed = {"- x", "x + x", "x = x", "x ? x : x", "x++", "++ x", "+ x", "(x)", "n[1]", "f(x)", "x && x"};
        for (String one : closed) {
            sixty(57, "g(" + one + ", - - x);");
            sixtyOne(57, "g(" + one + ", - - `- x);");
            sixty(57, "int y = " + one + ", z = - - - x;");
            sixtyOne(57, "int y = " + one + ", z = - - - `- x;");
        }
        // The first + is closed where the second comes, but what that takes on its left is 2 deep.
        sixty(57, "x + x + - - x;");
        sixtyOne(57, "x + x + - - `- x;");
        sixtyOne(58, "x + x `+ x;");
        sixty(57, "x * x + - - x;");
        sixtyOne(57, "x * x + - - `- x;");
        sixty(57, "- x + - - x;");
        sixtyOne(57, "- x + - - `- x;");
        sixty(57, "x + x * x;");
        sixtyOne(58, "x + x `* x;");
        sixty(57, "x++ + - - x;");
        sixty(58, "x ? x : - x;");
    }

    private void openToTheEnd() {
        toTheEnd(2, "if (", "x", ") ;");
        toTheEnd(2, "if (x) { ", "x", "; }");
        toTheEnd(1, "if (x) ", "x", ";");
        toTheEnd(2, "while (", "x", ") ;");
        toTheEnd(1, "while (x) ", "x", ";");
        toTheEnd(2, "do ; while (", "x", ");");
        toTheEnd(1, "do ", "x", "; while (x);");
        toTheEnd(2, "for (", "x", ";;) ;");
        toTheEnd(2, "for (;", "x", ";) ;");
        toTheEnd(2, "for (;;", "x", ") ;");
        toTheEnd(2, "for (int i = ", "x", ";;) ;");
        toTheEnd(1, "for (;;) ", "x", ";");
        toTheEnd(2, "switch (", "x", ") { }");
        toTheEnd(2, "switch (x) { case ", "1", ": ; }");
        toTheEnd(2, "switch (x) { case 1: ", "x", "; }");
        toTheEnd(2, "switch (x) { default: x; case 1: ", "x", "; }");
        toTheEnd(1, "{ x; ", "x", "; }");
    }

    private void elseToTheEnd() {
        toTheEnd(1, "if (x) ; else ", "x", ";");
        toTheEnd(2, "if (x) ; else if (x) ", "x", ";");
        toTheEnd(2, "if (x) ; else if (x) ; else ", "x", ";");
        toTheEnd(2, "if (x) if (x) ; else ", "x", ";");
        toTheEnd(1, "if (x) { if (x) ; } else ", "x", ";");
        toTheEnd(1, "if (x) if (x) ; else ; else ", "x", ";");
        String many = "if (x) ; else ".repeat(29);
        sixty(30, many + "- x;");
        sixtyOne(30, many + "- `- x;");
        sixty(29, many + "if (x) ;");
        sixtyOne(30, many + "if `(x) ;");
    }

    /** Behind the whole statement it counts no more. */
    private void closedStatements() {
        String[] closed = {"if (x) ;", "if (x) ; else ;", "while (x) ;", "do ; while (x);", "for (;;) ;",
            "for (int i;;) ;", "switch (x) { }", "switch (x) { case 1: ; }", "x ? x : - x;", "- - x;", "n[h()];",
            "int y[1] = { -1 };"};
        for (String first : closed) {
            for (String second : closed) {
                sixty(58, first + " " + second.replace("y", "z"));
            }
            sixtyOne(58, first + " - - `- x;");
        }
    }

    /** What is OPEN and a left side of that depth come to 59, and to 60. */
    private void depthAtEachOperator() {
        for (int open : new int[] {1, 2, 30, 57, 58}) {
            String most = elements(59 - open);
            String over = elements(60 - open);
            for (String operator : BETWEEN) {
                sixty(open, most + " " + operator + " x;");
                sixtyOne(open, over + " `" + operator + " x;");
            }
            for (String operator : ASSIGNING) {
                sixty(open, most + " " + operator + " x;");
                sixtyOne(open, over + " `" + operator + " x;");
            }
            sixty(open, most + " ? x : x;");
            sixtyOne(open, over + " `? x : x;");
            sixty(open, most + "++; " + most + "--;");
            sixtyOne(open, over + "`++;");
            sixtyOne(open, over + "`--;");
            sixty(open, over + "; f(" + most + "); " + most + ";");
        }
        sixty(59, "x; 1;");
        sixtyOne(59, "x`++;");
        sixtyOne(59, "x`--;");
        sixtyOne(60, "x`++;");
        sixty(58, "x++;");
        sixty(57, "- x++;");
        sixtyOne(58, "- x`++;");
        sixtyOne(58, "+ x`++;");
        sixty(57, "(x)++; (x++);");
        sixty(58, "(x)++;");
        sixtyOne(58, "(x`++);");
    }

    private void depthOfEachExpression() {
        depth(1, "x");
        depth(1, "1");
        depth(1, "'a'");
        depth(1, "h()");
        depth(1, "(x)");
        depth(1, "((1))");
        depth(1, "+ x");
        depth(1, "+ + (+ x)");
        depth(1, "(h())");
        depth(2, "- x");
        depth(2, "! x");
        depth(2, "~ 1");
        depth(2, "++ x");
        depth(2, "-- x");
        depth(2, "x++");
        depth(2, "(x)--");
        depth(2, "n[1]");
        depth(2, "f(1)");
        depth(2, "f((1))");
        depth(2, "g(1, 1)");
        depth(2, "f(h())");
        depth(2, "n[h()]");
        depth(2, "(x ? x : x)");
        depth(2, "(x = x)");
        depth(2, "(x + x)");
        depth(3, "g(- 1, 1)");
        depth(3, "g(1, - 1)");
        depth(3, "g(1, 1, - 1)");
        depth(3, "g(1, - 1, 1)");
        depth(3, "g(1, 1, 1, - 1)");
        depth(3, "(- x ? x : x)");
        depth(3, "(x ? - x : x)");
        depth(3, "(x ? x : - x)");
        depth(3, "(n[1] = x)");
        depth(3, "(x = - x)");
        depth(3, "(- x + x)");
        depth(3, "(x + - x)");
        depth(3, "(x + x + - x)");
        depth(3, "- + - x");
        depth(3, "- (- (x))");
        depth(4, "n[n[n[1]]]");
        depth(4, "f(f(f(1)))");
        depth(4, "(x = x = x = x)");
        depth(4, "(x ? x : x ? x : x ? x : x)");
        depth(4, "(x + x * - x)");
    }

    /** Operators of one sort are one expression, whatever is about the first ones. */
    private void depthOfChains() {
        depth(2, "(x + x + x + x)");
        depth(2, "((x + x) + x)");
        depth(2, "(((x + x) - x) + x)");
        depth(2, "(+ (x + x) - x)");
        depth(2, "(+ (+ (x + x) - x) + x)");
        depth(2, "((+ + (x + x)) - x)");
        depth(3, "(x + (x + x))");
        depth(3, "(x + + (x + x))");
        depth(3, "((x * x) + x)");
        depth(3, "(x * x + x)");
        depth(3, "(x == x + x)");
        depth(3, "(- (x + x))");
        depth(3, "((x = x) + x)");
        depth(4, "(- (x + x) + x)");
        String[] sorts = {"||", "&&", "|", "^", "&", "== !=", "< > <= >=", "<< >>", "+ -", "* / %"};
        for (String sort : sorts) {
            for (String first : sort.split(" ")) {
                for (String second : BETWEEN) {
                    boolean same = (" " + sort + " ").contains(" " + second + " ");
                    depth(same ? 2 : 3, "((x " + first + " x) " + second + " x)");
                }
            }
        }
    }

    /** A k can be no deeper than others. */
    private void depthOfKs() {
        for (String item : new String[] {"enum { A = ", "int a[", "int a[1] = {"}) {
            String end = item.endsWith("[") ? "];" : "};";
            String most = "~".repeat(57) + "1";
            check.due("a k with 1 OPEN and 58 deep", Check.tapeWith(item + most + " + 1" + end).read(false) != -1, true);
            check.none(item + "~" + most + " `+ 1" + end);
            check.none(item + "~" + most + " `? 1 : 1" + end);
        }
        String most = "~".repeat(58) + "1";
        check.right("int a = " + most + " + 1;" + Check.MAIN);
        check.none("int a = ~" + most + " `+ 1;");
    }

    /** The = of v and of enum, commas, colons and else are none of what is OPEN. */
    private void noOperators() {
        sixty(59, "int y = - 1, z = - 1;");
        sixty(60, "int y = 1, z = x;");
        sixty(58, "int y[1] = { -1 };");
        sixty(58, "switch (x) { case 1: default: }");
        check.right("enum { A = " + "- ".repeat(59) + "1 };" + Check.MAIN);
        check.none("enum { A = " + "- ".repeat(59) + "`- 1 };" + Check.MAIN);
        check.right("int a = " + "- ".repeat(60) + "1;" + Check.MAIN);
        check.none("int a = " + "- ".repeat(60) + "`- 1;" + Check.MAIN);
    }

    /** With so many OPEN ahead of it the statement stands, and none less would do for one more. */
    private void sixty(int open, String statement) {
        String text = inBraces(open, statement);
        check.due("that it stands: " + text, Check.tapeWith(text).read(false) != HomeReader.NONE, true);
    }

    private void sixtyOne(int open, String marked) {
        check.none(inBraces(open, marked));
    }

    /** Where own more are OPEN, so many minuses can just stand as make them 60. */
    private void toTheEnd(int own, String ahead, String operand, String behind) {
        for (int open : new int[] {1, 20, 55, 56}) {
            String minuses = "- ".repeat(60 - open - own);
            sixty(open, ahead + minuses + operand + behind);
            sixtyOne(open, ahead + minuses + "`- " + operand + behind);
        }
    }

    private void outside(String ahead, String middle, String behind, int open) {
        String most = "(".repeat(60 - open);
        String ends = ")".repeat(60 - open);
        int answer = Check.tapeWith(ahead + most + middle + ends + behind + Check.MAIN).read(false);
        check.due("that it stands: " + ahead + ".." + behind, answer != HomeReader.NONE, true);
        check.none(ahead + most + "`(" + middle + ")" + ends + behind + Check.MAIN);
    }

    /** A ++ and an operator of each sort but one make it 11 deeper than it is, with nothing left OPEN. */
    private void depth(int deep, String expression) {
        String deeper = "(" + expression + ")++ * x + x << x < x == x & x ^ x | x && x || x";
        sixty(48 - deep, deeper + " ? x : x;");
        sixtyOne(49 - deep, deeper + " `? x : x;");
    }

    /** Of that depth. */
    private static String elements(int deep) {
        return "n[".repeat(deep - 1) + "1" + "]".repeat(deep - 1);
    }

    private static String inBraces(int open, String statement) {
        return AHEAD + "{".repeat(open - 1) + statement + "}".repeat(open - 1) + "}";
    }
}
