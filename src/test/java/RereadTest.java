import java.util.HashMap;
import java.util.Map;

/**
 * Promises 4 to 12 of an object that has read before: of each text it tells what a new one tells of
 * it, whatever the text before it was. The same texts at several distances from the beginning, so
 * that what the one leaves behind meets every part of the other.
 */
public final class RereadTest {
    private static final int MOST_CALLS = 512;
    private static final String[] TEXTS = {
        "",
        "int main(int n){ + n; +(+n + +n); + + n ? +n : +n; n = +(-+n); ++n; +n++; f(+n); } void f(int a){ }",
        "int a[4]; char c[9]; int main(int n){ len(a); len(c); get(n, a); n = a[n]; a[1] = c[2]; c[n]++; }",
        "int main(int n){ n = n; n += n; n++; --n; (n) = (n); { int n; n = 1; } return n; }",
        "enum { a, b = 7, c, d = -1, e }; int x = c, y[c] = { a, b, c }; int main(int n){ switch(n){ case a: case b: default: } }",
        "char s[4] = \"abc\"; void g(int a, int b[], char c[]){ g(a, b, c); } int main(int n){ char c[2]; int b[2]; g(n, b, c); }",
        "int main(int n){ for(;;){ if(n) break; else continue; } do ; while(n); while(n) ; return +n; }",
        "int main(int n){ { { { int a; { int a; a ? a : a; } } } } }",
        "int put(int n){ } int main(int n){ }",
        "int main(int n){ return; }",
        "int main(int n){ int n; }",
        "int n; int main(int n){ zz; }",
        "int a[2]; int main(int n){ a + 1; }",
        "int main(int n){ put(1, 2); }",
        "int main(int n){ put(1) + 1; }",
        "int main(int n){ n + 1 = 2; }",
        "int main(int n){ (n + 1) = 2; }",
        "int x = 1 / 0; int main(int n){ }",
        "int x[0]; int main(int n){ }",
        "int main(int n){ break; }",
        "int main(int n){ switch(n){ case 1: case 1: } }",
        "int main(void){ return 1; }",
        "int main(int n){ int a[4096], b[4096]; }",
        "void f(void){ } int main(int n){ int a[4096], b[4096]; }",
        "int a[4096], b[4096], c; int main(int n){ }",
        "int main(int n){ ((((((((((((((((((((((((((((((((((((((((((((((((((((((((((((((n",
        "int main(int n){ { { { { { if (n) while (n) for (;;) switch (n) { case 1: do { @",
        "int main(int n){ ---------------------------------------------------------------n; }",
        "int control; int load(int a){ load(a); } int main(int n){ load(control); }",
        "int main(int n){ control(3); setcontrol(1 + 1, n); n = host(n, load(n), n); }",
        "int main(int n){ \"no string\"; }",
        "int main(int n){ " + Check.times("-(", 28) + "n" + Check.times(")", 28) + "; }",
        "int main(int n){ n; n; n; n; " + Check.times("(", 55) + "n + n - n" + Check.times(")", 55) + "; }",
        "/* no end",
        "int a, b[3], c; enum { d = 3 }; char e[d]; char f(char g, char h[]){ return h[g]; } int main(int n){ n = f(n, e); }"
    };
    private final Check check = new Check();
    private final Map<String, String> dues = new HashMap<>();

    public static void main(String[] args) {
        RereadTest test = new RereadTest();
        test.eachBehindEach();
        test.allOnOne();
        test.oneManyTimes();
        test.check.close();
    }

    /** So many statements or declarations more stand ahead, that each takes one node or two. */
    private static String moved(String text, int by) {
        return text.replaceFirst("\\bmain\\(int n\\)\\{", "main(int n){" + Check.times(";", by));
    }

    private void eachBehindEach() {
        for (String text : TEXTS) {
            for (String before : TEXTS) {
                for (int by = 0; by < 4; by++) {
                    reread(moved(before, by), text, by % 2 == 0);
                }
            }
        }
    }

    private void reread(String before, String text, boolean system) {
        HomeReader reader = Check.tapeWith(before);
        reader.read(system);
        told(reader, text, !system, "behind " + before);
        reader = Check.tapeWith(before);
        reader.read(system);
        told(reader, text, system, "behind " + before);
    }

    private void allOnOne() {
        for (int stride = 1; stride < TEXTS.length; stride += 2) {
            HomeReader reader = new HomeReader();
            int calls = 0;
            for (int i = 0; calls < MOST_CALLS - 100; i += stride) {
                String text = TEXTS[i % TEXTS.length];
                told(reader, text, i % 3 == 0, "on one for all by " + stride);
                calls += text.length() / 20 + 60;
            }
        }
    }

    /** As often as 512 calls allow, the names changing. */
    private void oneManyTimes() {
        HomeReader reader = new HomeReader();
        for (int i = 0; i < MOST_CALLS / 2; i++) {
            reader.feed(0x696e7420, 0x6d61696e, 0x28696e74, 0x206e3030 + (i / 10 % 10 << 8) + i % 10, 0x297b7d20);
            check.due("read " + i, reader.read(false), 0);
        }
    }

    private void told(HomeReader reader, String text, boolean system, String where) {
        Check.lay(reader, text);
        check.due(text + " " + where, answers(reader, system), byANewOne(text, system));
    }

    private String byANewOne(String text, boolean system) {
        return dues.computeIfAbsent(text + system, key -> answers(Check.tapeWith(text), system));
    }

    private static String answers(HomeReader reader, boolean system) {
        return reader.read(system) + " " + Check.toldBy(reader) + " " + reader.again() + " "
            + reader.read(system) + " " + reader.mark();
    }
}
