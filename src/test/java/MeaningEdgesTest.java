/** Promises 4 and 5: each number of what is wrong at its bounds, the last text that is right beside the first that is wrong. */
public final class MeaningEdgesTest {
    private static final String GIVEN = "enum { E, F = 3 }; int i; char c; int r[3]; char s[3];"
        + " void v(void) { } int w(int a, int b) { } int t(int a[], char b[], int c) { } ";
    private static final String[] BETWEEN = "|| && | ^ & == != < > <= >= << >> + - * / %".split(" ");
    private static final String[] ASSIGNING = "= += -= *= /= %= <<= >>= &= |= ^=".split(" ");
    private final Check check = new Check();

    public static void main(String[] args) {
        MeaningEdgesTest test = new MeaningEdgesTest();
        test.scopesEnd();
        test.parametersAndOutermostBlock();
        test.namesOfTheText();
        test.knownBehindItsOwn();
        test.innermostCounts();
        test.builtInFunctions();
        test.manyArguments();
        test.whereNumbersAreWanted();
        test.whereAnIntOrACharIsWanted();
        test.whereArraysAreWanted();
        test.whereVoidCanStand();
        test.whatCanBeAssignedTo();
        test.whatAKMayHave();
        test.divisionByZero();
        test.sizes();
        test.lists();
        test.stringsInArrays();
        test.breaksAndContinues();
        test.casesAndDefaults();
        test.returns();
        test.mains();
        test.frames();
        test.manyFunctionsAndWords();
        test.leastBehindAllTokens();
        test.leastAtOneToken();
        test.check.close();
    }

    private void scopesEnd() {
        stands("{ int a; a; } { int a; a; }");
        inMain(2, "{ int a; a; } `a;");
        inMain(2, "{ { int a; } `a; }");
        inMain(2, "for (int a; a; a) a; `a;");
        inMain(2, "for (int a = 1;;) { a; } for (; `a;) ;");
        inMain(2, "switch (n) { case 1: int a; a; } `a;");
        inMain(2, "switch (n) { case 1: int a; } switch (n) { case 1: `a; }");
        inMain(2, "if (n) { int a; } else `a;");
        stands("if (n) int a; else a; a;");
        stands("while (n) int a; do int b; while (b); for (;;) int d; a; b;");
        inMain(2, "for (;;) int d; `d;");
        inMain(2, "do { int b; } while (`b);");
        stands("for (int a;;) { int a; { int a; } } for (char a;;) ; int a;");
        inMain(1, "for (int a;;) int `a;");
        inMain(1, "for (int a, `a;;) ;");
        inMain(1, "{ int a; char `a; }");
        inMain(1, "switch (n) { case 1: int a; default: char `a[1]; }");
        stands("switch (n) { case 1: int a; { int a; } } int a; switch (a) { case 1: int a; }");
        check.wrong(2, "int f(int a) { } int g(int b) { `a; }" + Check.MAIN);
        check.wrong(2, "int f(int a) { int b; } int g(int a) { `b; }" + Check.MAIN);
        check.right("int f(int a) { int b; } int g(int a) { int b; } int a, b;" + Check.MAIN);
    }

    private void parametersAndOutermostBlock() {
        check.wrong(1, "int main(int n) { int `n; }");
        check.wrong(1, "int main(int n) { n; char a, `n[2]; }");
        check.right("int main(int n) { { int n; } }");
        check.wrong(1, "int f(int a, int b, char `a[]) { }" + Check.MAIN);
        check.wrong(1, "int f(int a[], int `a) { int a; }" + Check.MAIN);
        check.right("int f(int f, int main, int put) { }" + Check.MAIN);
        check.wrong(1, "int f(int f) { int `f; }" + Check.MAIN);
        check.right("int f(int a) { int f; { int f, a; } }" + Check.MAIN);
    }

    private void namesOfTheText() {
        for (String kind : new String[] {"int `f;", "char `f;", "int `f[1];", "char a, `f = 1;", "enum { `f };", "enum { A, `f = 2 };"}) {
            check.wrong(1, kind + " void f(int x) { }" + Check.MAIN);
            check.wrong(1, "void f(int x) { } " + kind + Check.MAIN);
            check.wrong(1, "int f; " + kind.replace(", `f", ", b, `f") + Check.MAIN);
            check.wrong(1, "enum { f }; " + kind + Check.MAIN);
            check.wrong(1, kind.replace("f", "main") + Check.MAIN);
            check.wrong(1, kind.replace("f", "end") + Check.MAIN);
            check.right(kind.replace("`f", "host") + Check.MAIN);
            check.wrongInSystem(1, kind.replace("f", "host") + Check.MAIN);
            check.right(kind.replace("`f", "f1") + " int f(int x) { }" + Check.MAIN);
        }
        check.wrong(1, "int f(int a) { } int `f(int a) { }" + Check.MAIN);
        check.wrong(1, "int f(int a) { } int g(int a) { } char `f(void) { } int f() { }" + Check.MAIN);
        check.wrong(1, "int main(int n) { } int `main(int n) { }");
        check.wrong(1, "enum { a }; enum { b, `a };" + Check.MAIN);
    }

    private void knownBehindItsOwn() {
        inMain(2, "int a = `a;");
        inMain(2, "int a[`a];");
        inMain(2, "int a[2] = { `a };");
        inMain(2, "int a = n, b = a, d = `e, e;");
        stands("int a = n, b = a, e = b;");
        stands("int i = i; int r = r[0]; int E[E + 1]; int F[F] = { 1 };");
        inMain(3, "int r[3] = { 1 }, b = `r;");
        check.wrong(2, "enum { A = `A };" + Check.MAIN);
        check.wrong(2, "enum { A = `B, B };" + Check.MAIN);
        check.right("enum { A, B = A, C = A + B }; enum { D = C };" + Check.MAIN);
        check.wrong(2, "int a = `A; enum { A };" + Check.MAIN);
        check.wrong(2, "int f(int x) { `a; } int a;" + Check.MAIN);
        check.right("int a; int f(int x) { a; }" + Check.MAIN);
        check.right("int main(int n) { later(); } int later() { main(later()); }");
        check.wrong(7, "int a = `later(); int later() { }" + Check.MAIN);
    }

    private void innermostCounts() {
        stands("int v; v = 1; { int v[2]; v[1] = 1; { char v; v = 1; } v[0]; } v++;");
        inMain(2, "{ int v; `v(); }");
        inMain(2, "v(); int v; `v();");
        inMain(2, "int put; { `put(1); }");
        inMain(3, "{ int i[1]; i[0]; } `i[0];");
        inMain(6, "{ int E; E = 1; } `E = 1;");
        inMain(6, "int a[E + 1]; { int E; } ++`E;");
        check.right("int i[2]; int f(int i) { i = 1; } int main(int n) { i[n] = 1; }");
        check.wrong(3, "int i[2]; int f(int i) { `i[1]; }" + Check.MAIN);
    }

    /** Each of them with its arguments, with one less and one more, and what it gives. */
    private void builtInFunctions() {
        builtIn(true, "len", "r", "s");
        builtIn(false, "put", "n", "n");
        builtIn(false, "send", "n, n", "n");
        builtIn(true, "recv", "n", "n");
        builtIn(true, "more", "n", "n");
        builtIn(true, "spawn", "n, n", "n");
        builtIn(true, "wait", "n", "n");
        builtIn(false, "get", "n, r", "n");
        builtIn(false, "set", "n, r", "n");
        builtIn(false, "end", "n", "n");
        builtIn(true, "load", "n", "n");
        builtIn(false, "store", "n, n", "n");
        builtIn(true, "control", "1", "n");
        builtIn(false, "setcontrol", "1, n", "n");
        builtIn(true, "host", "n, n, n", "n");
        for (String name : "load store control setcontrol host".split(" ")) {
            check.wrong(2, GIVEN + "int main(int n) { `" + name + "(1, n, n); }");
            check.wrong(2, GIVEN + "int main(int n) { `" + name + "; }");
            check.wrongInSystem(2, GIVEN + "int main(int n) { `" + name + "; }");
        }
        inMain(3, "len(`n);");
        inMain(3, "get(n, `s);");
        inMain(3, "set(n, `s);");
        inMain(3, "get(`r, r);");
        inMain(3, "set(`s, r);");
        inMain(3, "get(n, `n);");
        for (String call : new String[] {"put(`r)", "send(`r, 1)", "send(1, `s)", "recv(`r)", "more(`s)", "spawn(`r, 1)",
            "spawn(1, `r)", "wait(`r)", "end(`s)", "load(`r)", "store(`r, 1)", "store(1, `r)", "setcontrol(1, `r)",
            "host(`r, 1, 1)", "host(1, `r, 1)", "host(1, 1, `s)", "control(`r)", "setcontrol(`r, 1)"}) {
            check.wrongInSystem(3, GIVEN + "int main(int n) { " + call + "; }");
        }
        check.wrongInSystem(7, GIVEN + "int main(int n) { control(`n); }");
        check.wrongInSystem(7, GIVEN + "int main(int n) { setcontrol(`(n), n); }");
        check.wrongInSystem(7, GIVEN + "int main(int n) { setcontrol(1, control(`1 / E)); }");
        check.rightInSystem(GIVEN + "int main(int n) { setcontrol(1 || 1 / 0, n); control(E); }");
    }

    private void builtIn(boolean gives, String name, String arguments, String more) {
        boolean system = "load store control setcontrol host".contains(name);
        String call = name + "(" + arguments + ")";
        int last = arguments.lastIndexOf(',');
        String fewer = name + "(" + (last < 0 ? "" : arguments.substring(0, last)) + ")";
        String start = GIVEN + "int main(int n) { ";
        checkCall(system, 0, start + call + "; }");
        checkCall(system, gives ? 0 : 5, start + "n = " + (gives ? "" : "`") + call + "; }");
        checkCall(system, 4, start + "`" + fewer + "; }");
        checkCall(system, 4, start + "`" + name + "(); }");
        checkCall(system, 4, start + "`" + name + "(" + arguments + ", " + more + "); }");
        checkCall(system, 4, start + "`" + name + "(" + arguments + ", v()); }");
        checkCall(system, 6, start + "`" + call + " = 1; }");
        checkCall(true, 1, "int `" + name + ";" + Check.MAIN);
        checkCall(true, 1, "int `" + name + "() { }" + Check.MAIN);
    }

    private void checkCall(boolean system, int number, String marked) {
        if (number == 0 && system) {
            check.rightInSystem(marked);
        } else if (number == 0) {
            check.right(marked);
        } else if (system) {
            check.wrongInSystem(number, marked);
        } else {
            check.wrong(number, marked);
        }
    }

    private void manyArguments() {
        stands("v(); w(1, 2); t(r, s, 3);");
        inMain(4, "`v(1);");
        inMain(4, "`w(1);");
        inMain(4, "`w();");
        inMain(4, "`w(1, 2, 3);");
        inMain(4, "`t(r, s);");
        inMain(4, "`t(r, s, 3, r);");
        // Those too many may be anything, those that are not too many may not.
        inMain(4, "`w(1, 2, v(), r);");
        inMain(4, "`w(r);");
        inMain(3, "(w(`r, 2));");
        inMain(4, "(`w(r, 2, 3));");
        inMain(4, "`v(zz);");
        check.wrong(2, GIVEN + "int main(int n) { `zz(r, v(), s); }");
        check.wrong(2, GIVEN + "int main(int n) { `n(r, v(), s); }");
    }

    private void whereNumbersAreWanted() {
        for (String operator : BETWEEN) {
            inMain(3, "`r " + operator + " 1;");
            inMain(3, "1 " + operator + " `r;");
            inMain(3, "1 " + operator + " 2 " + operator + " `(s);");
            inMain(5, "`v() " + operator + " 1;");
            inMain(5, "1 " + operator + " (`v());");
        }
        for (String operator : "- + ! ~".split(" ")) {
            inMain(3, operator + " `r;");
            inMain(3, operator + " `(s);");
            inMain(5, operator + " (`v());");
        }
        for (String operator : ASSIGNING) {
            inMain(3, "n " + operator + " `r;");
            inMain(5, "n " + operator + " `v();");
        }
        for (String with : new String[] {"? 1 : 1", "? n : n"}) {
            inMain(3, "`r " + with + ";");
            inMain(5, "`v() " + with + ";");
        }
        String[] places = {"n ? X : 1;", "n ? 1 : X;", "r[X];", "w(X, 1);", "w(1, X);", "if (X) ;", "while (X) ;",
            "do ; while (X);", "switch (X) { }", "for (; X;) ;", "return X;", "int a = X;", "for (int a = X;;) ;",
            "int a[X];", "int a[1] = { X };", "int a[2] = { 1, X };", "switch (n) { case X: ; }", "((X)) + 1;"};
        for (String place : places) {
            boolean inside = place.startsWith("((");
            inMain(3, inside ? "`((r)) + 1;" : place.replace("X", "`r"));
            inMain(3, inside ? "`((s)) + 1;" : place.replace("X", "`(s)"));
            inMain(5, place.replace("X", "`v()"));
            stands(place.replace("X", "1"));
            stands(place.replace("X", "(F)"));
        }
        check.wrong(3, "int r[1]; int a = `r;" + Check.MAIN);
        check.wrong(5, "int a = `put(1);" + Check.MAIN);
        check.wrong(3, "int r[1]; enum { A = `(r) };" + Check.MAIN);
        check.wrong(5, "enum { A = `put(1) };" + Check.MAIN);
    }

    /** Of functions and arguments, an int and a char are numbers both. */
    private void whereAnIntOrACharIsWanted() {
        String functions = "char x(char a) { return a; } int y(int a) { return a; } char r[2]; int s[2]; void v() { } ";
        for (String name : new String[] {"x", "y"}) {
            String start = functions + "int main(int n) { char c; int i; ";
            for (String number : new String[] {"1", "c", "i", "r[1]", "s[1]", "x(1)", "y(1)", "n = 1"}) {
                check.right(start + "i = c = " + name + "(" + number + ") + 1; r[" + name + "(" + number + ")]; }");
            }
            check.wrong(3, start + name + "(`r); }");
            check.wrong(3, start + name + "(`s); }");
            check.wrong(5, start + name + "(`v()); }");
            check.wrong(6, start + "`" + name + "(1) = 1; }");
            check.wrong(3, start + "`" + name + "[1]; }");
        }
    }

    private void whereArraysAreWanted() {
        stands("len(r); len(s); len((r)); len(((s))); t(r, s, 1); get(1, r);");
        for (String none : new String[] {"n", "1", "E", "r[1]", "v()", "n + 1", "n ? r : r", "- n", "n = 1", "w(1, 2)"}) {
            boolean mixed = none.contains("r : r");
            inMain(3, "len(`" + none + ");");
            inMain(3, "len(`(" + none + "));");
            if (!mixed) {
                inMain(3, "get(1, `" + none + ");");
                inMain(3, "t(r, `" + none + ", 1);");
            }
        }
        inMain(3, "t(`s, s, 1);");
        inMain(3, "t(r, `r, 1);");
        inMain(3, "t(`(s), s, 1);");
        // n [ e ] is a number whatever n is, and so is what an operator makes.
        for (String none : new String[] {"(n[1])", "(E[1])", "(v[1])", "(zz[1])", "+ zz(1)", "- zz(1)", "+ zz", "(1 + zz(1))"}) {
            inMain(3, "len(`" + none + ");");
        }
        check.right("int f(int a[], char b[]) { len(a); len(b); f(a, b); get(1, a); a[1] = b[1]; }" + Check.MAIN);
        check.wrong(3, "int f(int a[], char b[]) { f(`b, b); }" + Check.MAIN);
        check.wrong(3, "int f(int a[], char b[]) { f(a, `a); }" + Check.MAIN);
        // An index is one of an array, at the name; the brackets about it come first.
        for (String none : new String[] {"n", "i", "c", "E", "v", "put", "main"}) {
            inMain(3, "`" + none + "[1];");
            inMain(3, "`" + none + "[1] = 1;");
            inMain(3, "(`" + none + "[1]);");
            inMain(3, "1 + `" + none + "[n];");
        }
        stands("r[1]; s[1]; r[r[s[0]]] = s[r[1]]++; (r[1]) = 1;");
    }

    private void whereVoidCanStand() {
        stands("v(); (v()); ((v())); for (v();;) ; for (;; v()) ; for ((v()); n; (v())) ; put(1);");
        inMain(3, "`r;");
        inMain(3, "`(r);");
        inMain(3, "for (`r;;) ;");
        inMain(3, "for (;; `s) ;");
        inMain(3, "for (; `s;) ;");
        inMain(5, "for (; `v();) ;");
        inMain(5, "for (; (`v());) ;");
        inMain(5, "- ((`v()));");
        check.wrong(11, "void f() { `return v(); }" + GIVEN + Check.MAIN);
    }

    private void whatCanBeAssignedTo() {
        String[] right = {"n", "i", "c", "(n)", "((c))", "r[1]", "s[n + 1]", "(r[1])"};
        String[] wrong = {"1", "'a'", "E", "(F)", "w(1, 2)", "v()", "(v())", "(n = 1)", "(n ? n : n)", "(n + 1)", "(- n)",
            "(+ n)", "(n++)", "(++ n)", "zz(1)", "n(1)"};
        for (String target : right) {
            for (String operator : ASSIGNING) {
                stands(target + " " + operator + " 1;");
            }
            stands(target + "++; " + target + "--; ++" + target + "; -- " + target + ";");
            stands("n = " + target + " = 1; - " + target + "++; + ++ " + target + ";");
        }
        for (String target : wrong) {
            int number = target.equals("zz(1)") || target.equals("n(1)") ? 2 : 6;
            for (String operator : ASSIGNING) {
                inMain(number, "`" + target + " " + operator + " 1;");
                inMain(6, "`(" + target + ") " + operator + " 1;");
            }
            inMain(number, "`" + target + "++;");
            inMain(6, "`(" + target + ")--;");
            inMain(number, "++ `" + target + ";");
            inMain(6, "-- `(" + target + ");");
        }
        for (String operator : ASSIGNING) {
            inMain(3, "`r " + operator + " 1;");
            inMain(3, "`(s) " + operator + " 1;");
            inMain(6, "`- n " + operator + " 1;");
            inMain(6, "`+ n " + operator + " 1;");
            inMain(6, "`n++ " + operator + " 1;");
            inMain(6, "`++ n " + operator + " 1;");
        }
        inMain(3, "`r++;");
        inMain(3, "`(s)--;");
        inMain(3, "++ `r;");
        inMain(3, "-- `(s);");
        inMain(6, "++ `+ n;");
        inMain(6, "-- `- n;");
        inMain(6, "++ `n--;");
        inMain(6, "++ `-- n;");
        check.right("int f(int a, char b, int d[]) { a = b = d[1] = 2; a++; --b; }" + Check.MAIN);
    }

    private void whatAKMayHave() {
        String[] right = {"1", "'a'", "F", "(F)", "- -F", "+ F", "!E", "~-F", "F ? F : E", "E ? E : F", "1 || E", "F && F",
            "F | F", "F ^ E", "F & F", "F == F", "F != E", "E < F", "F > E", "E <= E", "F >= E", "1 << F", "F >> E + 1",
            "F + F", "F - 1", "F * F", "F / F", "7 % 4"};
        String[] wrong = {"n", "i", "c", "(n)", "r[1]", "s[0]", "w(1, 2)", "v() + 1", "n = 1", "n++", "++ n", "- -- n", "F + n",
            "n + F", "F ? n : F", "F ? F : n", "E ? n : F", "1 || n", "E && n", "- n", "+ n", "(n)", "F + w(1, 2)", "r[1] + zz",
            "1 + zz(1)", "1 + n(1)", "- zz(1)", "1 ? zz : n"};
        for (String k : right) {
            stands("int a[" + k + "]; switch (n) { case " + k + ": ; } int b[1] = { " + k + " };");
            check.right(GIVEN + "int a = " + k + ", b[1] = { " + k + " }, d[" + k + "]; enum { G = " + k + " };" + Check.MAIN);
            check.rightInSystem(GIVEN + "int main(int n) { control(" + k + "); }");
        }
        for (String k : wrong) {
            int number = k.startsWith("v()") ? 5 : 7;
            boolean assigns = k.contains(" = ");
            String local = assigns ? "(" + k + ")" : k;
            inMain(number, "int a[`" + local + "];");
            inMain(number, "int a[2] = { 1, `" + local + " };");
            inMain(number, "switch (n) { case `" + local + ": ; }");
            check.wrongInSystem(number, GIVEN + "int main(int n) { setcontrol(`" + k + ", n); }");
            if (!k.contains("n")) {
                check.wrong(number, GIVEN + "int a = `" + k + ";" + Check.MAIN);
            }
        }
        check.wrong(7, GIVEN + "int a = `i = 1;" + Check.MAIN);
        check.wrong(7, GIVEN + "int a = `i;" + Check.MAIN);
        check.wrong(7, GIVEN + "int a = 1, b = `a;" + Check.MAIN);
        check.wrong(7, GIVEN + "enum { G = `i };" + Check.MAIN);
        // What is behind = of a variable in a function is none.
        stands("int a = n, b = w(1, 2) + r[1], d = n = 1, e = n++;");
        // Names that are wrong by 2 do not matter for that, but the rest does.
        inMain(2, "int a[1 + `zz];");
        inMain(2, "int a[1 / 0 + `zz];");
        inMain(2, "int a[1 ? 1 / 0 : `v];");
        inMain(2, "int a[0 * `put];");
        inMain(2, "int a[1 || `zz];");
        inMain(7, "int a[`1 / 0 + zz + n];");
        inMain(7, "int a[`1 + zz[1]];");
        inMain(2, "int a[`zz + zz[1]];");
    }

    private void divisionByZero() {
        String[] come = {"1 / 0", "1 % 0", "1 / E", "1 % (F - 3)", "- (1 / 0)", "!(1 % 0)", "1 / 0 + 1", "1 + 1 / 0", "1 / 0 ? 1 : 1",
            "1 ? 1 / 0 : 1", "0 ? 1 : 1 / 0", "1 && 1 / 0", "0 || 1 / 0", "1 / 0 && 0", "1 / 0 || 1", "1 && 1 && 1 / 0",
            "0 || 0 || 1 % 0", "0 && 1 || 1 / 0", "0 * (1 / 0)", "0 / 0", "(1 && 1) / 0", "1 / (1 - 1)", "1 / 2147483648 / 0",
            "1 / (1 << 31 << 1)", "+ (1 / 0)", "1 & 1 / 0", "0 & 1 / 0", "(0 && 1) / 0"};
        String[] none = {"0 && 1 / 0", "1 || 1 / 0", "1 ? 1 : 1 / 0", "0 ? 1 / 0 : 1", "0 && 1 / 0 || 1", "1 || 1 / 0 && 1",
            "0 && 1 / 0 && 1 / 0", "1 || 1 / 0 || 1 % 0", "0 / 1", "1 / -1", "1 % -1", "-2147483648 / -1", "-2147483648 % -1",
            "1 / 2147483648", "0 && (1 / 0 || 1)", "1 ? 1 : 0 ? 1 / 0 : 1 % 0", "0 ? 1 / 0 + 1 : 1"};
        for (String k : come) {
            check.wrong(7, GIVEN + "int a = `" + k + ";" + Check.MAIN);
            check.wrong(7, GIVEN + "enum { G = `" + k + " };" + Check.MAIN);
            inMain(7, "int a[`" + k + "];");
            inMain(7, "switch (n) { case `" + k + ": ; }");
            stands("n = " + k + "; int a = " + k + ";");
        }
        for (String k : none) {
            check.right(GIVEN + "int a = " + k + "; enum { G = " + k + " };" + Check.MAIN);
            stands("switch (n) { case " + k + ": ; }");
        }
    }

    private void sizes() {
        for (String type : new String[] {"int", "char"}) {
            for (String size : new String[] {"1", "4096", "4095", "0x1000", "F", "-1 + 2", "4294967295 + 2"}) {
                check.right(GIVEN + type + " a[" + size + "];" + Check.MAIN);
                stands(type + " a[" + size + "];");
            }
            for (String size : new String[] {"0", "4097", "-1", "E", "2147483647", "2147483648", "4294967295", "1 - 1", "(0)",
                "65536 * 65536", "-4096", "+ 0"}) {
                check.wrong(8, GIVEN + type + " a[`" + size + "];" + Check.MAIN);
                inMain(8, type + " a[`" + size + "];");
                inMain(8, type + " b[1], a[`" + size + "] = { 1, 2 };");
            }
        }
    }

    private void lists() {
        for (String type : new String[] {"int", "char"}) {
            for (String text : new String[] {"a[1] = { 1 };", "a[3] = { 1, 2, 3 };", "a[3] = { 1 };", "a[4096] = { 1, 2 };"}) {
                check.right(type + " " + text + Check.MAIN);
                stands(type + " " + text);
            }
            for (String text : new String[] {"a[1] = `{ 1, 2 };", "a[3] = `{ 1, 2, 3, 4 };", "a[1] = `{ 1, zz };",
                "a[2] = { 1, 2 }, b[2] = `{ 1, 2, 3 };"}) {
                check.wrong(8, type + " " + text + Check.MAIN);
                inMain(8, type + " " + text);
            }
            String most = "1" + ",1".repeat(4095);
            check.right(type + " a[4096] = { " + most + " };" + Check.MAIN);
            check.wrong(8, type + " a[4096] = `{ " + most + ",1 };" + Check.MAIN);
        }
        check.right("char a[2] = { 256, -1 };" + Check.MAIN);
    }

    private void stringsInArrays() {
        String[] strings = {"", "a", "\\n", "ab", "a\\0", "\\\\\\\"'"};
        int[] sizes = {1, 2, 2, 3, 3, 4};
        for (int i = 0; i < strings.length; i++) {
            String string = " = \"" + strings[i] + "\";";
            String marked = " = `\"" + strings[i] + "\";";
            check.right("char a[" + sizes[i] + "]" + string + Check.MAIN);
            stands("char a[" + (sizes[i] + 1) + "]" + string);
            stands("char a[" + sizes[i] + "]" + string);
            if (sizes[i] > 1) {
                check.wrong(8, "char a[" + (sizes[i] - 1) + "]" + marked + Check.MAIN);
                inMain(8, "char a[" + (sizes[i] - 1) + "]" + marked);
            }
            inMain(8, "int a[9]" + marked);
            check.wrong(8, "int a[9]" + marked + Check.MAIN);
        }
        String most = "x".repeat(200);
        check.right("char a[201] = \"" + most + "\";" + Check.MAIN);
        check.wrong(8, "char a[200] = `\"" + most + "\";" + Check.MAIN);
        inMain(8, "char a[`0] = \"\";");
        inMain(2, "char a[`zz] = \"abc\";");
    }

    private void breaksAndContinues() {
        for (String jump : new String[] {"break;", "continue;"}) {
            inMain(9, "`" + jump);
            inMain(9, "{ `" + jump + " }");
            inMain(9, "if (n) `" + jump);
            inMain(9, "if (n) ; else `" + jump);
            for (String loop : new String[] {"while (n) X", "do X while (n);", "for (;;) X"}) {
                stands(loop.replace("X", jump));
                stands(loop.replace("X", "{ if (n) " + jump + " else " + jump + " }"));
                stands(loop.replace("X", "switch (n) { default: " + jump + " }"));
                inMain(9, loop.replace("X", ";") + " `" + jump);
                inMain(9, loop.replace("X", jump) + " `" + jump);
            }
            check.wrong(9, "int f() { while (1) " + jump + " } int g() { `" + jump + " }" + Check.MAIN);
        }
        stands("switch (n) { case 1: break; { break; } if (n) break; }");
        inMain(9, "switch (n) { case 1: `continue; }");
        inMain(9, "switch (n) { case 1: while (n) continue; `continue; }");
        stands("while (n) switch (n) { case 1: continue; }");
        inMain(9, "switch (n) { case 1: break; } `break;");
        inMain(9, "switch (n) { case 1: switch (n) { } break; } `break;");
        stands("switch (n) { case 1: switch (n) { } break; }");
    }

    private void casesAndDefaults() {
        stands("switch (n) { case 1: case 2: case 0: case -1: default: case 3: ; }");
        inMain(10, "switch (n) { case 1: `case 1: ; }");
        inMain(10, "switch (n) { case 1: ; case 2: ; `case 3 - 2: ; }");
        inMain(10, "switch (n) { case 4294967295: `case -1: ; }");
        inMain(10, "switch (n) { case 2147483648: case 2147483647: `case -2147483648: ; }");
        inMain(10, "switch (n) { case 'a': `case 0x61: ; }");
        inMain(10, "switch (n) { case F: `case 3: ; }");
        inMain(10, "switch (n) { case 0: `case 4294967295 + 1: ; }");
        inMain(10, "switch (n) { default: `default: ; }");
        inMain(10, "switch (n) { default: case 1: ; `default: ; default: ; }");
        inMain(10, "switch (n) { case 1: case 2: `case 2: case 1: ; }");
        stands("switch (n) { default: switch (n) { default: case 1: ; } case 1: switch (n) { case 1: ; } }");
        inMain(10, "switch (n) { case 1: switch (n) { case 2: ; } case 2: { } `case 1: ; }");
        inMain(10, "switch (n) { case 1: switch (n) { case 1: `case 1: ; } }");
        stands("switch (n) { case 1: default: ; } switch (n) { case 1: default: ; }");
        inMain(7, "switch (n) { case `n: case n: ; }");
        inMain(2, "switch (n) { case `zz: case zz: ; }");
        inMain(2, "switch (n) { case 0: case 0 && `zz: ; }");
        StringBuilder many = new StringBuilder();
        for (int i = -300; i < 300; i++) {
            many.append("case ").append(i).append(": ");
        }
        stands("switch (n) { " + many + "}");
        inMain(10, "switch (n) { " + many + "`case -300: }");
        inMain(10, "switch (n) { " + many + "`case 299: }");
    }

    private void returns() {
        check.right("void f() { return; } int g() { return 1; } char h() { return g(); }" + Check.MAIN);
        check.right("void f() { } int g() { } char h() { }" + Check.MAIN);
        check.wrong(11, "void f() { `return 1; }" + Check.MAIN);
        check.wrong(11, "int f() { `return; }" + Check.MAIN);
        check.wrong(11, "char f() { `return; }" + Check.MAIN);
        check.wrong(11, "int g() { return 1; } void f() { return; `return zz; }" + Check.MAIN);
        check.wrong(11, "void f() { while (1) { switch (1) { case 1: `return (1); } } }" + Check.MAIN);
        check.wrong(5, "void f() { return; } int g() { return `f(); }" + Check.MAIN);
    }

    private void mains() {
        for (String main : new String[] {"", "int a;", "int main;", "int main() { }", "int main(void) { }", "int main(char n) { }",
            "int main(int n[]) { }", "int main(char n[]) { }", "int main(int n, int m) { }", "void main(int n) { }",
            "char main(int n) { }", "int Main(int n) { }", "int mai(int n) { }", "int mainn(int n) { }", "enum { main };"}) {
            check.wrong(12, main + "`");
            check.wrong(12, main + " //\n`");
        }
        check.right("int main(int other) { }");
        check.right("int f() { } int main(int n) { } int g() { }");
    }

    private void frames() {
        frame("int a[4096], b[4091];", "");
        frame("int a[4096], b[4090]; n;", "");
        frame("int a[4096], b[4089]; n + n;", "");
        frame("int a[4096], b[4090], d;", "");
        frame("int a[4096], b[4090]; char d;", "");
        frame("int a[4096], b[4090]; char d[4];", "");
        frame("int a[4096], b[4089]; char d[5];", "");
        frame("int a[4096], b[3067]; char d[4096];", "");
        frame("{ int a[4096]; } { int b[4091]; }", "");
        frame("for (int a[4096];;) switch (n) { case 1: int b[4090]; }", "");
        frame("int a[4096], b[4090];", ", int x");
        frame("int a[4096], b[4090];", ", char x");
        frame("int a[4096], b[4089];", ", int x[]");
        frame("int a[4096], b[4089];", ", char x[]");
        frame("int a[4096], b[4088];", ", int x[], char y");
    }

    /** Just 8192 words, and another name makes them too many. */
    private void frame(String statements, String parameters) {
        String head = "int f(int n" + parameters + ") { " + statements;
        HomeReader reader = Check.tapeWith(head + " }" + Check.MAIN);
        check.due("read of " + head, reader.read(false), 0);
        check.due("frame of " + head, reader.function(0, 2), 8192);
        check.wrong(13, head + " int more; }" + Check.MAIN + "`");
        check.wrong(13, "int g() { } " + head + " int more; } int h() { } " + Check.MAIN + "`");
        check.wrong(13, Check.MAIN + head + " int more; }`");
        check.wrong(13, head + " char more; }" + Check.MAIN + " `");
    }

    private void manyFunctionsAndWords() {
        check.right("int a[4096], b[4096];" + Check.MAIN);
        check.right("int a[4096], b[4095], d;" + Check.MAIN);
        check.right("int a[4096], b[4095]; char d[4];" + Check.MAIN);
        check.right("int a[4096], b[3072]; char d[4096];" + Check.MAIN);
        for (String more : new String[] {"int x;", "char x;", "int x[1];", "char x[1];", "int x = 1;", "char x[4] = \"\";"}) {
            check.wrong(14, "int a[4096], b[4096]; " + more + Check.MAIN + "`");
            check.wrong(14, more + " int a[4096];" + Check.MAIN + " int b[4096]; /**/`");
        }
        check.right("int a[4096], b[4096]; enum { A, B };" + Check.MAIN);
        check.wrong(14, "int a[4096], b[4095]; char d[5];" + Check.MAIN + "`");
        String many = "";
        for (int i = 0; i < 199; i++) {
            many += "int f" + i + "(){}";
        }
        check.right(many + Check.MAIN);
        check.rightInSystem(many + Check.MAIN);
        check.wrong(14, many + Check.MAIN + "void f199(){}`");
        check.wrongInSystem(14, many + Check.MAIN + "void f199(){}`");
    }

    private void leastBehindAllTokens() {
        String words = "int a[4096], b[4096], c;";
        String frame = "int f() { int a[4096], b[4096]; }";
        check.wrong(12, words + frame + "`");
        check.wrong(12, words + "`");
        check.wrong(12, frame + "`");
        check.wrong(13, words + frame + Check.MAIN + "`");
        check.wrong(14, words + Check.MAIN + "`");
        check.wrong(13, frame + Check.MAIN + "`");
        check.wrong(2, words + frame + " int g() { `zz; }");
        check.wrong(2, words + frame + " int main(int n) { `zz; }");
        check.none(words + frame + " int g() { zz; `");
    }

    private void leastAtOneToken() {
        check.wrong(1, "int f; int `f;" + Check.MAIN);
        inMain(2, "`zz[1] = 1;");
        inMain(2, "`zz(1)++;");
        inMain(3, "int a[`r];");
        inMain(3, "`r = v();");
        inMain(5, "int a[`v()];");
        inMain(4, "int a[`w(1)];");
        inMain(4, "`v(1) + 1;");
        inMain(3, "len(`v(1));");
        inMain(3, "len(`v());");
        inMain(3, "len(`w(1));");
        inMain(4, "`w(1) = 1;");
        inMain(6, "`1 = 1;");
        check.wrong(6, "int a = `1 = 2;" + Check.MAIN);
        check.wrong(2, "int a = `zz(1);" + Check.MAIN);
        check.wrong(4, "int a = `put();" + Check.MAIN);
    }

    private void inMain(int number, String marked) {
        check.wrong(number, GIVEN + "int main(int n) { " + marked + " }");
    }

    private void stands(String statements) {
        check.right(GIVEN + "int main(int n) { " + statements + " }");
    }
}
