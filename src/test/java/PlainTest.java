/** Promises 9 to 11: the plain form. */
public final class PlainTest {
    private final Check check = new Check();

    public static void main(String[] args) {
        PlainTest test = new PlainTest();
        test.texts();
        test.numbers();
        test.reckoned();
        test.statements();
        test.expressions();
        test.chains();
        test.letters();
        test.mark();
        test.fullTape();
        test.fullTapeWithShortNames();
        test.check.close();
    }

    private void texts() {
        items("enum{A,B=3,C};", "enum { A = 0 , B = 3 , C = 4 } ;");
        items("enum{A=-1,B,C=2147483647,D};",
            "enum { A = - 1 , B = 0 , C = 2147483647 , D = - 2147483648 } ;");
        items("enum{A=5};enum{B,C=A};", "enum { A = 5 } ; enum { B = 0 , C = 5 } ;");
        items("int a,b=1+2,c[3];char d=-1;", "int a , b = 3 , c [ 3 ] ; char d = - 1 ;");
        items("int a[1+2]={1,-2*3,+4};", "int a [ 3 ] = { 1 , - 6 , 4 } ;");
        items("char a[10]=\"a b\\n\\\"\\\\\\0//\";", "char a [ 10 ] = \"a b\\n\\\"\\\\\\0//\" ;");
        items("char a[1]=\"\";", "char a [ 1 ] = \"\" ;");
        items("int f(){}", "int f ( void ) { }");
        items("void f(void){return;}", "void f ( void ) { return ; }");
        items("char f(int a,char b[],int c[]){}", "char f ( int a , char b [ ] , int c [ ] ) { }");
        check.plain("int/**/main(int\tn)//\n{\r}//x", "int main ( int n ) { }");
    }

    private void numbers() {
        in("007;0x0F;0xffffffff;4294967295;2147483648;0;0000000000;",
            "7 ; 15 ; 4294967295 ; 4294967295 ; 2147483648 ; 0 ; 0 ;");
        in("'a';'\\n';'\\0';'\\'';'\\\\';' ';'\"';", "97 ; 10 ; 0 ; 39 ; 92 ; 32 ; 34 ;");
        in("0xaf;0xAF;0xbcde;0xBCDE;0x09;", "175 ; 175 ; 48350 ; 48350 ; 9 ;");
        in("-1;-0xffffffff;", "( - 1 ) ; ( - 4294967295 ) ;");
        items("int a=4294967295,b=0x80000000,c=-2147483648,d=2147483647;",
            "int a = - 1 , b = - 2147483648 , c = - 2147483648 , d = 2147483647 ;");
    }

    private void reckoned() {
        k("2+3*4-5", "9");
        k("(2+3)*4", "20");
        k("7/2", "3");
        k("-7/2", "- 3");
        k("7/-2", "- 3");
        k("-7%3", "- 1");
        k("7%-3", "1");
        k("-2147483648/-1", "- 2147483648");
        k("-2147483648%-1", "0");
        k("2147483647+1", "- 2147483648");
        k("65536*65536", "0");
        k("-2147483648-1", "2147483647");
        k("1<<31", "- 2147483648");
        k("1<<32", "1");
        k("1<<-1", "- 2147483648");
        k("-1>>31", "- 1");
        k("-8>>33", "- 4");
        k("0xffffffff>>1", "- 1");
        k("~5", "- 6");
        k("!5+!0*2", "2");
        k("- -5", "5");
        k("+5", "5");
        k("1<2", "1");
        k("2<1", "0");
        k("2<2", "0");
        k("2>2", "0");
        k("2>1", "1");
        k("2<=1", "0");
        k("2>=2", "1");
        k("5==4", "0");
        k("5!=4", "1");
        k("4294967295<0", "1");
        k("2<=2", "1");
        k("3>2>1", "0");
        k("2>=3", "0");
        k("5==5", "1");
        k("5!=5", "0");
        k("6&3|8^1", "11");
        k("6^3&1", "7");
        k("2&&3", "1");
        k("2&&0", "0");
        k("0||7", "1");
        k("0||0", "0");
        k("1||0&&0", "1");
        k("0?1:2?3:4", "3");
        k("1?2:3", "2");
        k("0&&1/0", "0");
        k("1||1%0", "1");
        k("'a'+1", "98");
        items("enum{A=3};int a=A*A,b[A]={A,-A};", "enum { A = 3 } ; int a = 9 , b [ 3 ] = { 3 , - 3 } ;");
        in("int b[1+1]={2-3};int c=1+1;", "int b [ 2 ] = { - 1 } ; int c = ( 1 + 1 ) ;");
        in("switch(a){case 1+1:case-3:case'a':default:;}",
            "switch ( a ) { case 2 : case - 3 : case 97 : default : ; }");
        in("control(1+2);setcontrol(-4,1+2);", "control ( 3 ) ; setcontrol ( - 4 , ( 1 + 2 ) ) ;");
    }

    private void statements() {
        in(";{}{;}", "; { } { ; }");
        in("int x,y=1,z[2];char w;", "int x , y = 1 , z [ 2 ] ; char w ;");
        in("if(a);if(a);else;if(a)if(a);else;else{}",
            "if ( a ) ; if ( a ) ; else ; if ( a ) if ( a ) ; else ; else { }");
        in("if(a+1);while(a=1)a;do;while(a++);", "if ( ( a + 1 ) ) ; while ( ( a = 1 ) ) a ; do ; while ( ( a ++ ) ) ;");
        in("for(;;);for(a;a;a);for(a=1;a<2;a++){}",
            "for ( ; ; ) ; for ( a ; a ; a ) ; for ( ( a = 1 ) ; ( a < 2 ) ; ( a ++ ) ) { }");
        in("for(int i=0,j;;);for(char c[1];;)int x;", "for ( int i = 0 , j ; ; ) ; for ( char c [ 1 ] ; ; ) int x ;");
        in("switch(a){}switch((a)){case 1:a;break;default:{}}",
            "switch ( a ) { } switch ( a ) { case 1 : a ; break ; default : { } }");
        in("for(;;){break;continue;}return(a);", "for ( ; ; ) { break ; continue ; } return a ;");
        in("return-a;", "return ( - a ) ;");
    }

    private void expressions() {
        in("((a));(((1)));", "a ; 1 ;");
        in("-a;!a;~a;++a;--a;a++;a--;", "( - a ) ; ( ! a ) ; ( ~ a ) ; ( ++ a ) ; ( -- a ) ; ( a ++ ) ; ( a -- ) ;");
        in("+a;+ +a;-+a;+-a;+(a);", "a ; a ; ( - a ) ; ( - a ) ; a ;");
        in("- - -a;!-a;-a++;", "( - ( - ( - a ) ) ) ; ( ! ( - a ) ) ; ( - ( a ++ ) ) ;");
        in("a=1;a=a+=1;(a)=(1);", "( a = 1 ) ; ( a = ( a += 1 ) ) ; ( a = 1 ) ;");
        in("a-=1;a*=1;a/=1;a%=1;a<<=1;a>>=1;a&=1;a|=1;a^=1;",
            "( a -= 1 ) ; ( a *= 1 ) ; ( a /= 1 ) ; ( a %= 1 ) ; ( a <<= 1 ) ; ( a >>= 1 ) ; ( a &= 1 ) ;"
                + " ( a |= 1 ) ; ( a ^= 1 ) ;");
        in("a?1:2;a?1:a?2:3;(a?1:2)?3:4;a?a?1:2:3;",
            "( a ? 1 : 2 ) ; ( a ? 1 : ( a ? 2 : 3 ) ) ; ( ( a ? 1 : 2 ) ? 3 : 4 ) ; ( a ? ( a ? 1 : 2 ) : 3 ) ;");
        in("q[a];q[a+1];q[q[(a)]]=1;(q[1])++;",
            "q [ a ] ; q [ ( a + 1 ) ] ; ( q [ q [ a ] ] = 1 ) ; ( q [ 1 ] ++ ) ;");
        in("g();f(a,1);f((a),a+1);len((q));", "g ( ) ; f ( a , 1 ) ; f ( a , ( a + 1 ) ) ; len ( q ) ;");
        in("f(a=1,a?1:2);", "f ( ( a = 1 ) , ( a ? 1 : 2 ) ) ;");
    }

    private void chains() {
        in("a+1-2;(a+1)-2;a+(1-2);", "( a + 1 - 2 ) ; ( a + 1 - 2 ) ; ( a + ( 1 - 2 ) ) ;");
        in("((a+1))-2-3;+(a+1)-2;+(+((a-1))+2)-3;", "( a + 1 - 2 - 3 ) ; ( a + 1 - 2 ) ; ( a - 1 + 2 - 3 ) ;");
        in("-(a+1)+2;(a*2)/3%4;a*(2/3);", "( ( - ( a + 1 ) ) + 2 ) ; ( a * 2 / 3 % 4 ) ; ( a * ( 2 / 3 ) ) ;");
        in("a*2+3;a+2*3;(a+2)*3;", "( ( a * 2 ) + 3 ) ; ( a + ( 2 * 3 ) ) ; ( ( a + 2 ) * 3 ) ;");
        in("a==1!=2;a<1>2<=3>=4;a<<1>>2;a<1==2;",
            "( a == 1 != 2 ) ; ( a < 1 > 2 <= 3 >= 4 ) ; ( a << 1 >> 2 ) ; ( ( a < 1 ) == 2 ) ;");
        in("a||1||2;a&&1&&2;a|1|2;a^1^2;a&1&2;",
            "( a || 1 || 2 ) ; ( a && 1 && 2 ) ; ( a | 1 | 2 ) ; ( a ^ 1 ^ 2 ) ; ( a & 1 & 2 ) ;");
        in("a||1&&2|3^4&5==6<7<<8+9*10;",
            "( a || ( 1 && ( 2 | ( 3 ^ ( 4 & ( 5 == ( 6 < ( 7 << ( 8 + ( 9 * 10 ) ) ) ) ) ) ) ) ) ) ;");
        in("a*1+2<<3<4==5&6^7|8&&9||10;",
            "( ( ( ( ( ( ( ( ( ( a * 1 ) + 2 ) << 3 ) < 4 ) == 5 ) & 6 ) ^ 7 ) | 8 ) && 9 ) || 10 ) ;");
        in("a+1==2-3;a-(1+2)-3;(a-1)-(2-3);", "( ( a + 1 ) == ( 2 - 3 ) ) ; ( a - ( 1 + 2 ) - 3 ) ; ( a - 1 - ( 2 - 3 ) ) ;");
    }

    private void letters() {
        HomeReader reader = Check.tapeWith("int main(int n){}");
        reader.read(false);
        check.due("length", reader.length(), 22);
        check.due("letter(0)", reader.letter(0), (int) 'i');
        check.due("letter(3)", reader.letter(3), (int) ' ');
        check.due("letter(21)", reader.letter(21), (int) '}');
        for (int i : new int[] {22, -1, Integer.MAX_VALUE, Integer.MIN_VALUE}) {
            check.throwsOutside("letter(" + i + ")", () -> reader.letter(i));
        }
        Check.lay(reader, "zz");
        reader.read(false);
        check.due("length of none", reader.length(), 0);
        check.throwsOutside("letter(0) of none", () -> reader.letter(0));
    }

    private void mark() {
        HomeReader reader = Check.tapeWith("int main(int n){n=1;}");
        reader.read(false);
        check.due("mark", reader.mark(), "int main ( int n ) { ( n = 1 ) ; }".hashCode());
        check.due("again", reader.again(), true);
        check.due("mark behind again", reader.mark(), "int main ( int n ) { ( n = 1 ) ; }".hashCode());
        reader.read(false);
        check.due("mark of what came again", reader.mark(), "int main ( int n ) { ( n = 1 ) ; }".hashCode());
    }

    /** A full tape whose plain form is as long as can be: of each two bytes fifteen. */
    private void fullTape() {
        StringBuilder text = new StringBuilder("enum{C=1<<31};char ");
        StringBuilder wanted = new StringBuilder("enum { C = - 2147483648 } ; char ");
        for (int i = 0; i < 4; i++) {
            text.append(i > 0 ? "," : "").append("a").append(i).append("[4096]={C");
            wanted.append(i > 0 ? " , " : "").append("a").append(i).append(" [ 4096 ] = { - 2147483648");
            int many = i < 3 ? 4095 : 4046;
            text.append(",C".repeat(many)).append("}");
            wanted.append(" , - 2147483648".repeat(many)).append(" }");
        }
        text.append(";int main(int n){}");
        wanted.append(" ; int main ( int n ) { }");
        HomeReader reader = Check.tapeWith(text.toString());
        check.due("read of a long one", reader.read(false), 0);
        check.due("length of a long one", reader.length(), wanted.length());
        check.due("mark of a long one", reader.mark(), wanted.toString().hashCode());
        check.due("again of a long one", reader.again(), false);
    }

    /** Short names of enum make still more of each byte, as long as there are some. */
    private void fullTapeWithShortNames() {
        String letters = "_abcdefghijklmnopqrstuvwxyzABCDEFGHIJKLMNOPQRSTUVWXYZ";
        StringBuilder text = new StringBuilder("enum{C=1<<31");
        StringBuilder wanted = new StringBuilder("enum { C = - 2147483648");
        int value = Integer.MIN_VALUE;
        for (int i = 0; i < 53 * 64; i++) {
            String behind = i < 53 ? "" : (letters + "0123456789").substring(i / 53 - 1, i / 53);
            String name = letters.charAt(i % 53) + behind;
            if (!name.equals("C") && !name.equals("if") && !name.equals("do")) {
                value++;
                text.append(",").append(name);
                wanted.append(" , ").append(name).append(" = - ").append(-value);
            }
        }
        text.append("};char ");
        wanted.append(" } ; char ");
        for (int i = 0; i < 3; i++) {
            String name = (i > 0 ? "," : "") + "a_" + i;
            int many = i < 2 ? 4095 : 3085;
            text.append(name).append("[4096]={C").append(",C".repeat(many)).append("}");
            wanted.append(name.replace(",", " , ")).append(" [ 4096 ] = { - 2147483648")
                .append(" , - 2147483648".repeat(many)).append(" }");
        }
        text.append(";int main(int n){}");
        wanted.append(" ; int main ( int n ) { }");
        check.due("that the tape is all but full", text.length() > 32700 && text.length() <= 32760, true);
        check.due("that more than 7 come of each byte", wanted.length() > 7 * 32768, true);
        HomeReader reader = Check.tapeWith(text.toString());
        check.due("read with short names", reader.read(false), 0);
        check.due("length with short names", reader.length(), wanted.length());
        check.due("mark with short names", reader.mark(), wanted.toString().hashCode());
    }

    private void items(String items, String wanted) {
        check.plain(items + Check.MAIN, wanted + " int main ( int n ) { }");
    }

    private void k(String k, String wanted) {
        items("int a=" + k + ";", "int a = " + wanted + " ;");
    }

    private void in(String statements, String wanted) {
        check.plainIn(statements, wanted);
    }
}
