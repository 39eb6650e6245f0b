/** Promises 4 and 5: what is wrong with the meaning of a text, 1 to 14. */
public final class MeaningTest {
    private static final String GIVEN = "int i; char c; int r[3]; char s[3]; enum { E }; void v(int x) { }"
        + " int t(int x[], char y[], int z) { } ";
    private final Check check = new Check();

    public static void main(String[] args) {
        MeaningTest test = new MeaningTest();
        test.knownAlready();
        test.scopes();
        test.notKnown();
        test.knownFrom();
        test.arrays();
        test.arguments();
        test.emptyOnes();
        test.assigned();
        test.noK();
        test.sizes();
        test.jumps();
        test.labels();
        test.returns();
        test.wholeText();
        test.systemText();
        test.firstOne();
        test.madeByWrongOnes();
        test.check.close();
    }

    private void knownAlready() {
        check.wrong(1, "int a; int `a;" + Check.MAIN);
        check.wrong(1, "int a, `a;" + Check.MAIN);
        check.wrong(1, "enum { a, b, `a };" + Check.MAIN);
        check.wrong(1, "char b; enum { a, `b };" + Check.MAIN);
        check.wrong(1, "int `f; int f(int a) { }" + Check.MAIN);
        check.wrong(1, "int f(int a) { } char `f[1];" + Check.MAIN);
        check.wrong(1, "enum { `f }; int f(int a) { }" + Check.MAIN);
        check.wrong(1, "int f(int a) { } void `f(void) { }" + Check.MAIN);
        check.wrong(1, "int `main; int main(int n) { }");
        for (String name : "len put send recv more spawn wait get set end".split(" ")) {
            check.wrong(1, "int `" + name + ";" + Check.MAIN);
            check.wrong(1, "enum { a, `" + name + " };" + Check.MAIN);
            check.wrong(1, "void `" + name + "(int a) { }" + Check.MAIN);
            check.right("int main(int " + name + ") { }");
        }
        for (String name : "load store control setcontrol host".split(" ")) {
            check.right("int " + name + ";" + Check.MAIN);
            check.right("int " + name + "(void) { }" + Check.MAIN);
            check.wrongInSystem(1, "int `" + name + ";" + Check.MAIN);
            check.wrongInSystem(1, "int `" + name + "(void) { }" + Check.MAIN);
        }
    }

    private void scopes() {
        check.wrong(1, "int main(int n) { int `n; }");
        check.wrong(1, "int main(int n, char `n) { }");
        inMain(1, "int a; { int a; } char `a[2];");
        inMain(1, "{ int a; } int a; if (n) int `a;");
        inMain(1, "for (int a;;) int `a;");
        inMain(1, "switch (n) { default: int a; case 1: int `a; }");
        inMain(1, "while (n) int a; int `a;");
        inMain(1, "do int a; while (a); int `a;");
        stands("int a; { int a; { int a; } } for (int a;;) { int a; } switch (n) { case 1: int a; }");
        stands("int a; for (;;) int a; for (char a;;) ; { int n; } int i, r, f, v, main, put;");
        stands("{ int a; } { int a; } switch (n) { default: int a; } switch (n) { default: int a; }");
        check.right("int f(int f) { f = f; } int g(int a) { int g; } int n;" + Check.MAIN);
    }

    private void notKnown() {
        inMain(2, "`a;");
        inMain(2, "`a[1];");
        inMain(2, "`a(1);");
        inMain(2, "n + (`a);");
        inMain(2, "`v;");
        inMain(2, "`main + 1;");
        inMain(2, "len(`put);");
        inMain(2, "`i(1);");
        inMain(2, "`r(1);");
        inMain(2, "`E(1);");
        inMain(2, "{ int v; `v(1); }");
        inMain(2, "int put; `put(1);");
        inMain(2, "`load(1);");
        inMain(2, "`put = 1;");
        check.wrong(2, "int main(int put) { `put(1); }");
        check.right("int main(int n) { later(main(n)); } void later(int n) { later(n); }");
    }

    private void knownFrom() {
        inMain(2, "int a = `a;");
        inMain(2, "int a[1] = {`a};");
        inMain(2, "{ int a; } `a = 1;");
        inMain(2, "for (int a;;) ; `a;");
        inMain(2, "switch (n) { case 1: int a; } `a;");
        inMain(2, "`a; int a;");
        check.wrong(2, "enum { A = `A };" + Check.MAIN);
        check.wrong(2, "int a[`B]; enum { B = 2 };" + Check.MAIN);
        check.wrong(2, "int main(int n) { `x; } int x;");
        check.wrong(2, "int f(int a) { } int main(int n) { `a; }");
        stands("int a = 1, b = a; { int i = i, r[E + 1] = {E}; r[i] = i; } r[0] = i;");
        stands("int E[E + 1]; E[0] = 1;");
        check.right("enum { A, B = A + 1, C = B * 2 }; int x = C, y[C];" + Check.MAIN);
        // The innermost counts, also where it is of another sort.
        inMain(3, "{ int i[2]; `i + 1; }");
        inMain(3, "{ int r; `r[1]; }");
        inMain(6, "{ int E; E = 1; } `E = 1;");
        inMain(7, "int E; int x[`E];");
    }

    private void arrays() {
        inMain(3, "`r;");
        inMain(3, "`(r);");
        inMain(3, "`r + 1;");
        inMain(3, "1 + `r;");
        inMain(3, "-`s;");
        inMain(3, "+`(r);");
        inMain(3, "i = `r;");
        inMain(3, "`r = 1;");
        inMain(3, "`(r) += 1;");
        inMain(3, "`r++;");
        inMain(3, "--`(s);");
        inMain(3, "`r ? 1 : 2;");
        inMain(3, "n ? `r : r;");
        inMain(3, "n ? 1 : `(r);");
        inMain(3, "r[`r];");
        inMain(3, "if (`r) ;");
        inMain(3, "while (`r) ;");
        inMain(3, "do ; while (`r);");
        inMain(3, "for (`r;;) ;");
        inMain(3, "for (;`r;) ;");
        inMain(3, "for (;;`r) ;");
        inMain(3, "switch (`r) { }");
        inMain(3, "return `r;");
        inMain(3, "int a = `r;");
        inMain(3, "int a[`r];");
        inMain(3, "int a[1] = {`r};");
        inMain(3, "switch (n) { case `r: ; }");
        inMain(3, "put(`r);");
        check.wrong(3, "int r[1]; int a = `r;" + Check.MAIN);
        check.wrong(3, "int r[1]; enum { A = `r };" + Check.MAIN);
        inMain(3, "len(`1);");
        inMain(3, "len(`(n));");
        inMain(3, "len(`n ? r : r);");
        inMain(3, "len(`E);");
        inMain(3, "len(`v(1));");
        inMain(3, "len(`r[1]);");
        inMain(3, "len(`+ r);");
        inMain(3, "t(`s, s, 1);");
        inMain(3, "t(r, `(r), 1);");
        inMain(3, "get(1, `s);");
        inMain(3, "set(1, `n);");
        inMain(3, "`n[1];");
        inMain(3, "`c[1];");
        inMain(3, "`E[1];");
        inMain(3, "`put[1];");
        inMain(3, "(`i[1]) = 1;");
        inMain(3, "1 + `i[1];");
        stands("t(r, (s), len(r) + len((s))); get(1, r); set(r[s[0]], (r)); (r[1]) = (s[2])++;");
        check.wrong(3, "int f(int a[]) { return len(a) + a[1] + `a; }" + Check.MAIN);
        check.wrong(3, "int g(char a[]) { } int f(int a[]) { g(`a); }" + Check.MAIN);
    }

    private void arguments() {
        inMain(4, "`put();");
        inMain(4, "`put(1, 2);");
        inMain(4, "`main();");
        inMain(4, "`main(1, 2);");
        inMain(4, "`t(r, s);");
        inMain(4, "`put(1, r);");
        inMain(4, "1 + `len(r, r);");
        inMain(4, "(`more());");
        check.wrong(4, "int f() { } int g(void) { } int main(int n) { f(); g(); f() + `g(n); }");
        check.wrong(4, "int f(int a, int b) { } int f2(int a) { `f(a); } int main(int n) { }");
    }

    private void emptyOnes() {
        inMain(5, "1 + `v(1);");
        inMain(5, "(`put(1)) + 1;");
        inMain(5, "-((`put(1)));");
        inMain(5, "+ `put(1);");
        inMain(5, "i = `v(1);");
        inMain(5, "i = (`v(1));");
        inMain(5, "`v(1) ? 1 : 2;");
        inMain(5, "n ? `v(1) : v(1);");
        inMain(5, "n ? 1 : `v(1);");
        inMain(5, "r[`v(1)];");
        inMain(5, "put(`put(1));");
        inMain(5, "int a = `v(1);");
        inMain(5, "return `v(1);");
        inMain(5, "if (`v(1)) ;");
        inMain(5, "while (`v(1)) ;");
        inMain(5, "for (;`v(1);) ;");
        inMain(5, "switch (`v(1)) { }");
        inMain(5, "int a[`put(1)];");
        stands("v(1); (put(1)); for (v(1); ; (v(2))) ; get(1, r); end(0); send(1, 2); set(n, r);");
        stands("i = recv(1) + more(2) + spawn(3, 4) + wait(5) + len(r) + t(r, s, c);");
    }

    private void assigned() {
        inMain(6, "`1 = 2;");
        inMain(6, "`(1) += 2;");
        inMain(6, "`E = 1;");
        inMain(6, "`E++;");
        inMain(6, "++`(E);");
        inMain(6, "`-n = 1;");
        inMain(6, "`+n = 1;");
        inMain(6, "`(+n) = 1;");
        inMain(6, "`+r = 1;");
        inMain(6, "`n++ = 1;");
        inMain(6, "++`n++;");
        inMain(6, "++`--n;");
        inMain(6, "++`-n;");
        inMain(6, "`(n = 1) = 2;");
        inMain(6, "`(n + 1)++;");
        inMain(6, "`(n ? i : c) = 1;");
        inMain(6, "`len(r) = 1;");
        inMain(6, "`put(1) = 1;");
        inMain(6, "`(put(1)) = 1;");
        inMain(6, "`v(1)++;");
        inMain(6, "--`v(1);");
        stands("(n) = (r[1]) = c; ((n))++; --(s[0]); n = i = c; - r[0]--; + ++n; n <<= 1;");
    }

    private void noK() {
        inMain(7, "int a[`n];");
        inMain(7, "int a[`1 + n];");
        inMain(7, "int a[`(1 + n)];");
        inMain(7, "int a[`+ n];");
        inMain(7, "int a[`1 + (n = 2)];");
        inMain(7, "int a[`(n++)];");
        inMain(7, "int a[`- n++];");
        inMain(7, "int a[`++n];");
        inMain(7, "int a[`r[1]];");
        inMain(7, "int a[`len(r)];");
        inMain(7, "int a[`1 + v(1)];");
        inMain(7, "int a[`1 + r];");
        inMain(7, "int a[`1 / 0];");
        inMain(7, "int a[`1 % (E - 0)];");
        inMain(7, "int a[`1 ? 1 / 0 : 1];");
        inMain(7, "int a[`1 / 0 ? 1 : 1];");
        inMain(7, "int a[`-(1 / 0)];");
        inMain(7, "int a[`!(1 % 0)];");
        inMain(7, "int a[`1 / 0 + 1];");
        inMain(7, "int a[`1 + 1 / 0];");
        inMain(7, "int a[`+(1 / 0)];");
        inMain(7, "int a[`1 && 1 / 0];");
        inMain(7, "int a[`0 || 1 / 0];");
        inMain(7, "int a[`0 && n];");
        inMain(7, "int a[`1 ? 1 : n];");
        inMain(7, "int a[1] = {`n};");
        inMain(7, "int a[2] = {1, `1 / 0};");
        inMain(7, "switch (n) { case `n: ; }");
        inMain(7, "switch (n) { case `1 % 0: ; }");
        check.wrong(7, "int a; int b = `a;" + Check.MAIN);
        check.wrong(7, "int a; int b = `(a = 1);" + Check.MAIN);
        check.wrong(7, "int a; int b = `a = 1;" + Check.MAIN);
        check.wrong(7, "int b = `1 / 0;" + Check.MAIN);
        check.wrong(7, "int b = `main(1);" + Check.MAIN);
        check.wrong(7, "int a; enum { A = `a };" + Check.MAIN);
        check.wrong(7, "enum { A = 1, B = A - 1, C = `A / B };" + Check.MAIN);
        stands("int a[1 || 1 / 0], b[0 && 1 / 0 || 2], d[0 ? 1 / 0 : 3], e[!E + ~-3], f[+(1)];");
        stands("int a[0 && 1 / 0 && 1 || 1], b[(1 || 1 / 0) * 2], d[1 ? 2 : 1 / 0 ? 3 : 4];");
        // What a name that is wrong by 2 is does not matter, but that it is called does.
        inMain(2, "int a[1 + `zz];");
        inMain(2, "int a[1 / 0 + `zz];");
        inMain(2, "int a[1 + `put];");
        inMain(7, "int a[`1 + zz + n];");
        inMain(7, "int a[`1 + zz(1)];");
        inMain(7, "int a[`1 + n(1)];");
        inMain(2, "int a[`zz(1)];");
        inMain(2, "switch (n) { case 0: case 0 * `zz: ; }");
    }

    private void sizes() {
        inMain(8, "int a[`0];");
        inMain(8, "int a[`4097];");
        inMain(8, "char a[`- 1];");
        inMain(8, "char a[`(1 - 1)];");
        inMain(8, "int a[`4294967295];");
        inMain(8, "int a[1] = `{1, 2};");
        inMain(8, "char a[3] = `{1, 2, 3, 4};");
        inMain(8, "char a[3] = `\"abc\";");
        inMain(8, "char a[1] = `\"\\n\";");
        inMain(8, "int a[9] = `\"abc\";");
        inMain(8, "int a[1] = `{1, n};");
        check.wrong(8, "enum { E = 1 }; int a[`E - 1];" + Check.MAIN);
        check.wrong(8, "char a[2] = `\"ab\";" + Check.MAIN);
        stands("char a[4096], b[1], d[4] = \"abc\", e[1] = \"\", f[2] = {1, 2}, g[3] = \"\\\\\\\"\";");
        check.right("int a[4096], b[4 - 3], c[2] = {1};" + Check.MAIN);
        inMain(2, "int a[1 + `zz] = {1, 2, 3};");
        inMain(8, "int a[2] = `{zz, 2, 3};");
    }

    private void jumps() {
        inMain(9, "`break;");
        inMain(9, "`continue;");
        inMain(9, "while (n) ; `break;");
        inMain(9, "if (n) { `break; }");
        inMain(9, "switch (n) { case 1: `continue; }");
        inMain(9, "switch (n) { case 1: break; } `break;");
        inMain(9, "do ; while (n); for (;;) ; `continue;");
        check.wrong(9, "int f(int a) { while (a) break; } int main(int n) { `break; }");
        stands("while (n) { break; continue; } do { if (n) continue; else break; } while (n);");
        stands("for (;;) break; for (;;) switch (n) { case 1: continue; default: break; }");
        stands("switch (n) { case 1: while (n) break; { break; } case 2: if (n) break; }");
    }

    private void labels() {
        inMain(10, "switch (n) { case 1: case 2: `case 1: ; }");
        inMain(10, "switch (n) { case 0xffffffff: ; `case -1: ; }");
        inMain(10, "switch (n) { case 'a': ; `case 97: ; }");
        inMain(10, "switch (n) { case E: ; `case 0: ; }");
        inMain(10, "switch (n) { default: case 1: `default: ; }");
        inMain(10, "switch (n) { case 1: switch (n) { case 2: ; } `case 1: ; }");
        stands("switch (n) { case 1: switch (n) { case 1: default: ; } case 2: default: ; }");
        stands("switch (n) { case 1: ; } switch (n) { case 1: ; default: ; } switch (n) { default: ; }");
        inMain(2, "switch (n) { case `zz: case zz: ; }");
        inMain(7, "switch (n) { case 0: case `n: ; }");
    }

    private void returns() {
        inMain(11, "`return;");
        inMain(11, "`return ;");
        check.wrong(11, "void f(void) { `return 1; }" + Check.MAIN);
        check.wrong(11, "void f(void) { `return put(1); }" + Check.MAIN);
        check.wrong(11, "char f(void) { while (1) { if (1) `return; } }" + Check.MAIN);
        check.wrong(11, "void f(void) { return; { `return zz; } }" + Check.MAIN);
        check.right("void f(void) { return; } char g(int x) { return x; }" + Check.MAIN);
    }

    private void wholeText() {
        check.wrong(12, "int a; // x\n `");
        check.wrong(12, "int main(void) { }`");
        check.wrong(12, "int main(char n) { }`");
        check.wrong(12, "int main(int n[]) { }`");
        check.wrong(12, "int main(int n, int m) { }`");
        check.wrong(12, "void main(int n) { }`");
        check.wrong(12, "char main(int n) { }`");
        check.wrong(12, "int mains(int n) { }`");
        check.wrong(12, "int x(int a) { int b[4096], c[4096]; }`");
        // 4 words, 1 of n, and the greatest height of none.
        check.right("int main(int n) { int a[4096], b[4091]; }");
        check.wrong(13, "int main(int n) { int a[4096], b[4092]; }`");
        check.wrong(13, "int main(int n) { int a[4096], b[4091]; n; }`");
        check.right("int main(int n) { char a[4096], b[4096], c[4096]; { char d[4096]; } int e[4090]; n; }");
        check.wrong(13, "void f(char c) { int a[4096], b[4092]; } int x[4096], y[4096], z;" + Check.MAIN + "`");
        check.right("int a[4096], b[4095]; char c[4];" + Check.MAIN);
        check.wrong(14, "int a[4096], b[4095]; char c[5];" + Check.MAIN + "`");
        check.wrong(14, "int a[4096], b[4096]; char c;" + Check.MAIN + " `");
        StringBuilder many = new StringBuilder();
        for (int i = 0; i < 199; i++) {
            many.append("int f").append(i).append("(){}");
        }
        check.right(many + Check.MAIN);
        check.wrong(14, many + "int g(){}" + Check.MAIN + "`");
        check.wrong(12, many + "int g(){} int h(){}`");
    }

    private void systemText() {
        check.rightInSystem("int main(int n) { store(load(1), 2); n = control(1 + 2) + host(1, n, 3);"
            + " setcontrol(-1, n); put(n); }");
        check.wrongInSystem(7, "int main(int n) { control(`n); }");
        check.wrongInSystem(7, "int main(int n) { setcontrol(`1 / 0, n); }");
        check.wrongInSystem(7, "int main(int n) { setcontrol(`n = 1, n); }");
        check.wrongInSystem(2, "int main(int n) { setcontrol(`zz, n); }");
        check.wrongInSystem(5, "int main(int n) { control(`put(1)); }");
        check.wrongInSystem(5, "int main(int n) { n = `store(1, 2); }");
        check.wrongInSystem(5, "int main(int n) { n = `setcontrol(1, 2); }");
        check.wrongInSystem(4, "int main(int n) { `host(1, 2); }");
        check.wrongInSystem(3, "int r[1]; int main(int n) { control(`r); }");
        for (String call : "load(1) store(1,2) control(1) setcontrol(1,2) host(1,2,3)".split(" ")) {
            check.wrong(2, "int main(int n) { `" + call + "; }");
        }
        check.right("int control(int a) { } int main(int n) { control(n); }");
    }

    /** The first in the order of tokens counts, at one token the least. */
    private void firstOne() {
        inMain(4, "`put(zz, r, v(1));");
        inMain(11, "`return; zz;");
        inMain(2, "`zz; return; break;");
        inMain(6, "`(zz(1)) = zz;");
        inMain(10, "switch (n) { case 1: `case 1: zz; }");
        inMain(2, "switch (n) { case 1: `zz; case 1: ; }");
        inMain(3, "int a[`r + zz];");
        inMain(2, "`zz(1) = 1;");
        inMain(5, "int a[1] = {`v(1)};");
        check.wrong(1, "enum { A, `A }; int B = 1 / 0;" + Check.MAIN);
        check.wrong(4, "int f(int a) { } int main(int n) { `f(1, 2); } int f(int a, int b) { }");
        check.wrong(4, "int main(int n) { `put(1, 2); } void put(int a, int b) { }");
        check.none("int a; int a; `zz;");
    }

    /** What is wrong makes nothing else wrong. */
    private void madeByWrongOnes() {
        inMain(2, "(`zz) = 1;");
        inMain(2, "(`zz)++;");
        inMain(2, "(`put) = 1;");
        inMain(2, "len((`zz));");
        inMain(2, "len((`zz(1)));");
        inMain(2, "get(n, (`n(1)));");
        inMain(3, "len(`(more(1)));");
        inMain(3, "len(`(more()));");
        inMain(2, "(`zz[1]) = 1;");
        inMain(2, "(`zz(1)) + 1;");
        inMain(2, "t((`zz), (zz), 1);");
        inMain(6, "`(zz(1)) = 1;");
        inMain(6, "`(n(1))++;");
        inMain(6, "`+ zz = 1;");
        inMain(6, "`(zz + 1) = 1;");
        inMain(3, "len(`(zz[1]));");
        inMain(3, "len(`- zz);");
        inMain(2, "switch (n) { case 0: ; case `zz: ; }");
        check.wrong(2, "enum { A = `zz, B }; int a[B]; int main(int n) { switch (n) { case A: case B: ; } }");
    }

    private void inMain(int number, String marked) {
        check.wrong(number, GIVEN + "int main(int n) { " + marked + " }");
    }

    private void stands(String statements) {
        check.right(GIVEN + "int main(int n) { " + statements + " }");
    }
}
