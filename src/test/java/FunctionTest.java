/** Promises 6 to 8: functions, their frames, the words of the text. */
public final class FunctionTest {
    private final Check check = new Check();

    public static void main(String[] args) {
        FunctionTest test = new FunctionTest();
        test.functions();
        test.outside();
        test.notRight();
        test.declared();
        test.heights();
        test.heightsOfCalls();
        test.whereItIsWorkedOut();
        test.words();
        test.check.close();
    }

    private void functions() {
        HomeReader reader = Check.tapeWith(" char a ( ) { } void bb(int x, char y[], int z[]) { }\nint main(int n){}");
        check.due("read", reader.read(true), 0);
        check.due("functions", reader.functions(), 3);
        int[] wanted = {7, 0, 4, 1, 22, 3, 9, 2, 59, 1, 5, 0};
        for (int i = 0; i < 12; i++) {
            check.due("function(" + i / 4 + ", " + i % 4 + ")", reader.function(i / 4, i % 4), wanted[i]);
        }
        reader = Check.tapeWith("int main(int n){}");
        reader.read(false);
        check.due("functions without system", reader.functions(), 1);
        check.due("place of main", reader.function(0, 0), 5);
    }

    private void outside() {
        HomeReader reader = Check.tapeWith("int main(int n){}");
        reader.read(false);
        int[][] outside = {{-1, 0}, {1, 0}, {0, -1}, {0, 4}, {Integer.MIN_VALUE, 0}, {Integer.MAX_VALUE, 3},
            {0, Integer.MAX_VALUE}, {0, Integer.MIN_VALUE}};
        for (int[] asked : outside) {
            check.throwsOutside("function(" + asked[0] + ", " + asked[1] + ")",
                () -> reader.function(asked[0], asked[1]));
        }
    }

    private void notRight() {
        HomeReader reader = Check.tapeWith("int x; int main(int n){}");
        reader.read(false);
        check.due("words", reader.words(), 1);
        for (String text : new String[] {"int x; int main(int n){ zz; }", "int x; int main(int n){ @; }", ""}) {
            Check.lay(reader, text);
            reader.read(false);
            check.due("functions of " + text, reader.functions(), 0);
            check.due("words of " + text, reader.words(), 0);
            check.throwsOutside("function of " + text, () -> reader.function(0, 0));
        }
    }

    /** 4 words, 1 of main's n, and so on. */
    private void declared() {
        frame(5, "");
        frame(6, "int a;");
        frame(6, "char a;");
        frame(10, "int a[5];");
        frame(6, "char a[1];");
        frame(6, "char a[4];");
        frame(7, "char a[5];");
        frame(9, "char a[5], b[5];");
        frame(14, "{ int a[3]; { char a[2]; } } for (int i[3];;) int b; switch (n) { default: int a; } ", 1);
        frame(7, "if (n) int a; else int b;", 1);
        HomeReader reader = Check.tapeWith("int f(int a, char b, int c[], char d[]) { }" + Check.MAIN);
        reader.read(false);
        check.due("frame of parameters", reader.function(0, 2), 10);
    }

    private void heights() {
        height(0, ";");
        height(1, "n;");
        height(1, "1;");
        height(1, "r[1];");
        height(2, "r[n + 1];");
        height(1, "(n);");
        height(1, "- n;");
        height(2, "- (n + 1);");
        height(1, "n++;");
        height(1, "++n;");
        height(2, "r[n + 1]++;");
        height(2, "--r[n + 1];");
        height(2, "n + 1;");
        height(2, "n + 1 - 2 + 3;");
        height(2, "(n + 1) + 2;");
        height(3, "n + (1 + 2);");
        height(2, "n * 1 + 2;");
        height(3, "n + 1 * 2;");
        height(4, "n + (1 + 2 * 3);");
        height(1, "n ? n : n;");
        height(2, "n + 1 ? n : n;");
        height(2, "n ? n + 1 : n;");
        height(2, "n ? n : n + 1;");
        height(3, "n + (n ? n : n + 1);");
        height(1, "n = 1;");
        height(2, "n = n + 1;");
        height(2, "r[1] = 1;");
        height(3, "r[1] = n + 1;");
        height(3, "r[n + 1 * 2] = 1;");
        height(3, "(r[n + 1 * 2]) += n;");
        height(4, "r[n] = r[n] = n + 1;");
        height(2, "(n) = n + 1;");
        height(11, "n || n && n | n ^ n & n == n < n << n + n * n;");
        height(2, "n * n + n << n < n == n & n ^ n | n && n || n;");
    }

    private void heightsOfCalls() {
        height(1, "g();");
        height(1, "put(1);");
        height(2, "put(n + 1);");
        height(2, "send(1, 2);");
        height(3, "send(1, n + 1);");
        height(2, "send(n + 1, 1);");
        height(2, "len(r);");
        height(2, "len((r));");
        height(3, "1 + len(r);");
        height(3, "get(1, r);");
        height(6, "h(1, r, s, 2);");
        height(7, "h(1, r, s, n + 1);");
        height(6, "h(1 + 2, r, s, 1);");
        height(7, "h(1 + (2 + (3 + (4 + (5 + (6 + 7))))), r, s, 1);");
        height(1, "control(1 + 2 * 3);");
        height(2, "setcontrol(1 + 2 * 3, n);");
        height(3, "setcontrol(1 + 2 * 3, n + 1);");
    }

    private void whereItIsWorkedOut() {
        height(2, "if (n + 1) ;");
        height(2, "while (n + 1) ;");
        height(2, "do ; while (n + 1);");
        height(2, "for (n + 1;;) ;");
        height(2, "for (;n + 1;) ;");
        height(2, "for (;;n + 1) ;");
        height(2, "switch (n + 1) { }");
        height(2, "return n + 1;");
        height(0, "switch (0) { case 1 + 2 * 3: ; }", 1);
        height(3, "n + 1; n + 1 * 2; { n; }");
        height(0, "int a = n + 1;", 3);
        height(0, "int a[1 + 2 * 3] = { 1 + 2, 2 };", 7);
        height(0, "char a[9] = \"abc\";", 3);
        HomeReader reader = Check.tapeWith("int f(int n) { n + (n + n); } int g(int n) { } int main(int n) { n + 1; }");
        reader.read(false);
        check.due("frame of f", reader.function(0, 2), 8);
        check.due("frame of g", reader.function(1, 2), 5);
        check.due("frame of main", reader.function(2, 2), 7);
    }

    private void words() {
        words(0, "");
        words(1, "int a;");
        words(2, "int a = 1 + 2 + 3; char b;");
        words(7, "int a[7] = {1};");
        words(2, "char a[7];");
        words(2, "char a[8] = \"abc\";");
        words(3, "char a[9];");
        words(4, "char a[1], b[2], c[3], d[4];");
        words(0, "enum { A, B }; int f(int a, int b) { int c[9]; }");
        words(8192, "int a[4096], b[4096];");
    }

    private void words(int wanted, String items) {
        HomeReader reader = Check.tapeWith(items + Check.MAIN);
        check.due("read of " + items, reader.read(false), 0);
        check.due("words of " + items, reader.words(), wanted);
    }

    private void frame(int wanted, String statements) {
        frame(wanted, statements, 0);
    }

    private void frame(int wanted, String statements, int height) {
        HomeReader reader = Check.tapeWith("int r[3]; char s[3]; int g() { } int h(int a, int b[], char c[], int d) { }"
            + " int main(int n) { " + statements + " }");
        check.due("read of " + statements, reader.read(true), 0);
        check.due("frame of " + statements, reader.function(2, 2), wanted + height);
    }

    private void height(int wanted, String statements) {
        frame(5, statements, wanted);
    }

    /** With so many words for what is declared in it and what that is given. */
    private void height(int wanted, String statements, int declared) {
        frame(5 + declared, statements, wanted);
    }
}
