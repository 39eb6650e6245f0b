/** Promises 4 and 5: where a text is none. */
public final class NoneTest {
    private final Check check = new Check();

    public static void main(String[] args) {
        NoneTest test = new NoneTest();
        test.blanks();
        test.names();
        test.numbers();
        test.characters();
        test.strings();
        test.marks();
        test.texts();
        test.statements();
        test.expressions();
        test.check.close();
    }

    private void blanks() {
        check.right(" \t\r\n/**/int/* * / // */main//\n(int n//*\n){}//");
        check.right("int main(int n){}/***/");
        check.right("int main(int n){}/*/ */");
        check.right("int main(int n){}// the end");
        check.none("int main(int n){}`/*/");
        check.none("int main(int n){}  `/* *");
        check.none("int`\u000bmain(int n){}");
        check.none("int`\u0000++main(int n){}");
        check.none("int main(int n) { n`\u0000++; }");
        check.none("int main(int n){}`\u00a0");
    }

    private void names() {
        check.right("int abcdefghijklmnopqrstuvwx, _, _9, Int, in, intx;" + Check.MAIN);
        check.none("int `abcdefghijklmnopqrstuvwxy;" + Check.MAIN);
        check.right("int aAzZ_09, ABCDEFGHIJKLMNOPQRSTUVWX, YZ, yz0123456789;" + Check.MAIN);
        check.none("int `9a;");
        check.none("int a`@;");
        for (String word : ("int char void enum if else while do for switch case default break"
            + " continue return").split(" ")) {
            check.none("int `" + word + ";");
        }
    }

    private void numbers() {
        check.right("int a = 4294967295, b = 0000000000, c = 0xffffffff, d = 0x0AbCdEf9;" + Check.MAIN);
        check.none("int a = `4294967296;");
        check.none("int a = `9999999999;");
        check.none("int a = `00000000000;");
        check.none("int a = `0x;");
        check.none("int a = `0xg;");
        check.none("int a = `0x123456789;");
        check.none("int a = 0`X1;");
        check.none("int a = 12`a;");
        check.none("int a = 00`x1;");
        check.none("int a = 0x1`g;");
        check.none("int a = 1`.5;");
    }

    private void characters() {
        check.right("int a = ' ' + '~' + '\"' + '\\n' + '\\0' + '\\'' + '\\\\';" + Check.MAIN);
        check.none("int a = `'';");
        check.none("int a = `''';");
        check.none("int a = `'\\';");
        check.none("int a = `'\\\"';");
        check.none("int a = `'\\t';");
        check.none("int a = `'ab';");
        check.none("int a = `'\t';");
        check.none("int a = `'\u007f';");
        check.none("int a = `'a");
    }

    private void strings() {
        check.right("char a[9] = \"\", b[9] = \"'\\\"\\\\\\n\\0/*\";" + Check.MAIN);
        check.right("char a[201] = \"" + Check.times("\\n", 200) + "\";" + Check.MAIN);
        check.none("char a[300] = `\"" + Check.times("x", 201) + "\";");
        check.none("char a[3] = `\"a;");
        check.none("char a[3] = `\"a\n\";");
        check.none("char a[3] = `\"\\'\";");
        check.none("char a[3] = `\"a\\\";");
        check.none("char a = `\"a\";");
        check.none("int main(int n) { put(`\"a\"); }");
    }

    private void marks() {
        check.right("int main(int n) { n+=1; n-=1; n*=1; n/=1; n%=1; n<<=1; n>>=1; n&=1; n|=1; n^=1; }");
        check.right("int main(int n) { n+++n; n- -n; n---n; n<=-n; n>>+n; n&&!n; n!=~n; n==n; n>=n; }");
        check.none("int main(int n) { n++`+++n; }");
        check.none("int main(int n) { n<<`<n; }");
        check.none("int main(int n) { n&&`&n; }");
        check.none("int main(int n) { n==`>n; }");
        check.none("int main(int n) { n`.n; }");
        check.none("int main(int n) { n`#; }");
        check.none("`\\");
    }

    private void texts() {
        check.wrong(12, "`");
        check.wrong(12, "int a, b[3] = {1, 2}, c = 3; char d[2] = \"x\"; enum { A, B = 2 } ;`");
        check.none("`;");
        check.none("int`");
        check.none("int  `");
        check.none("`a;");
        check.none("enum `A { A };");
        check.none("enum { `};");
        check.none("enum { A, `};");
        check.none("enum { A = 1 `= 2 };");
        check.none("enum { A }`");
        check.none("void a`;");
        check.none("void a`= 1;");
        check.none("int a `b;");
        check.none("int a[`];");
        check.none("int a[1]`[1];");
        check.none("int a[1] = `1;");
        check.none("int a[1] = {`};");
        check.none("int a[1] = {1,`};");
        check.none("int a = `{1};");
        check.none("int a[b `= 1];");
        check.none("int a, b`(int c) {}");
        check.none("int a(int`) {}");
        check.none("int a(`b c) {}");
        check.none("int a(int b, `c d) {}");
        check.none("int a(void`, int b) {}");
        check.none("int a(void `b) {}");
        check.none("int a(int b, `void) {}");
        check.none("int a(int b[`1]) {}");
        check.none("int a(int b,`) {}");
        check.none("int a(int b)`;");
        check.none("int a(int b) {} `}");
        check.none("int a(int b) {`");
        check.none("`return 1;");
        check.none("int a(int b) {} `5 (");
        check.none("int a(int b) {} `5 x(int c) {}");
        check.none("`x y(int c) {}");
        check.none("int a(int b) {} int `5 (");
        check.none("int a(int b) {} int x, y `z;");
    }

    private void statements() {
        inMain("`else;");
        inMain("if (n) ; else ; `else ;");
        inMain("if `n ;");
        inMain("if (`) ;");
        inMain("while (n)`}");
        inMain("do ; `n;");
        inMain("do ; while (n) `}");
        inMain("for (`) ;");
        inMain("for (;`) ;");
        inMain("for (n`, n;;) ;");
        inMain("for (;;n`;) ;");
        inMain("for (`{} ;;) ;");
        inMain("`case 1: ;");
        inMain("`default: ;");
        inMain("switch (n) `;");
        inMain("switch (n) { `n; case 1: ; }");
        inMain("switch (n) { `; case 1: ; }");
        inMain("switch (n) { case `: ; }");
        inMain("switch (n) { case 1`; }");
        inMain("switch (n) { case n `= 1: ; }");
        inMain("switch (n) { case 1: { `case 2: ; } }");
        inMain("switch (n) { default `1: ; }");
        inMain("break `n;");
        inMain("continue`}");
        inMain("return n `n;");
        inMain("`void a;");
        inMain("`enum { A };");
        inMain("int a`(int b) {}");
        inMain("`]");
        check.right("int main(int n) { if (n) if (n) ; else ; else ; switch (n) { } for (;;) int x; }");
        check.right("int main(int n) { switch (n) { default: case 1: case 2: ; { } int x; } }");
        check.right("int main(int n) { for (n;n;n) ; for (char c = 1, d[2];;) ; for (int i = 0; i < 2; i++) {} }");
        check.right("int main(int n) { do do ; while (n); while (n); while (n) ; }");
    }

    private void expressions() {
        inMain("n + `;");
        inMain("n `n;");
        inMain("n ++ `++;");
        inMain("n ++ `n;");
        inMain("n + n `= 1;");
        inMain("n ? n : n `= 1;");
        inMain("n ? n `;");
        inMain("n ? `: n;");
        inMain("n[n]`[n];");
        inMain("n(n)`(n);");
        inMain("n(n)`[n];");
        inMain("(n)`(n);");
        inMain("(n)`[n];");
        inMain("n(n,`);");
        inMain("n[`];");
        inMain("(`);");
        inMain("n[n`, n];");
        inMain("n`, n;");
        inMain("1`(n);");
        inMain("- `;");
        check.right("int main(int n) { n = n += n ? n = 1 : n ? 2 : - - + ++ n; (n) = (n) ++; }");
        check.wrong(6, "int main(int n) { `- n = 1; n ++ = 1; }");
    }

    private void inMain(String marked) {
        check.none("int main(int n) { " + marked + " }");
    }
}
