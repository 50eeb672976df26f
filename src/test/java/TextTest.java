/** What a text tells, and the place of its fault (promise 4). */
public final class TextTest {
    private static final String KIND = "k1 2 3 4 5 6;";
    private static final Due DUE = new Due();

    public static void main(String[] args) {
        told("", 0);
        told(" ", 0);
        told("e0;", 1);
        told("e9;", 1);
        told(" e 9 ; ", 1);
        faultOf("m1;m", 3);
        told("w1 1;e0;m1;s1 1;", 4);
        told("s9 4;m9;e9;w3 2;", 4);
        told("s9 4;k0 0 0 0 0 0;m9;k9 9 9 9 5 9;", 4);
        told(KIND.repeat(6), 6);
        faultOf(KIND.repeat(6) + "k", 78);
        faultOf(KIND.repeat(6) + " e1;k1 2 3 4 5 6;", 82);
        lettersOnce();
        numbersBeyond();
        tokensOutOfPlace();
        numbersOfManyFigures();
        otherLetters();
        tooEarly();
        firstFaultOnly();
        DUE.end("TextTest");
    }

    private static void told(String text, int items) {
        QuiltPatches x = new QuiltPatches();
        Due.type(x, text);
        DUE.is("tells() of '" + text + "'", x.tells(), items);
        DUE.is("letters behind '" + text + "'", x.count(8), items < 0 ? text.length() : 0);
    }

    private static void faultOf(String text, int place) {
        told(text, -10 - place);
    }

    private static void lettersOnce() {
        faultOf("w1 1;w1 1;", 5);
        faultOf("e1; e1;", 4);
        faultOf("m1;m1;", 3);
        faultOf("s1 1;e1;s1 1;", 8);
    }

    private static void numbersBeyond() {
        faultOf("w0 1;", 1);
        faultOf("w4 1;", 1);
        faultOf("w1 0;", 3);
        faultOf("w1 3;", 3);
        faultOf("e10;", 1);
        faultOf("m0;", 1);
        faultOf("m10;", 1);
        faultOf("s0 1;", 1);
        faultOf("s10 1;", 1);
        faultOf("s1 0;", 3);
        faultOf("s1 5;", 3);
        for (int i = 0; i < 6; i++) {
            StringBuilder s = new StringBuilder("k1 1 1 1 1 1;");
            s.replace(1 + 2 * i, 2 + 2 * i, "10");
            faultOf(s.toString(), 1 + 2 * i);
        }
        faultOf("k1 1 1 1 6 1;", 9);
    }

    private static void tokensOutOfPlace() {
        faultOf(";", 0);
        faultOf("  ;", 2);
        faultOf("1;", 0);
        faultOf("e;", 1);
        faultOf("e1 1;", 3);
        faultOf("e1e2;", 2);
        faultOf("ee1;", 1);
        faultOf("e1;;", 3);
        faultOf("k1 1 1 1 1;", 10);
        faultOf("k1 1 1 1 1 1 1;", 13);
        faultOf("k1 w1 1;", 3);
        faultOf("w1;", 2);
        faultOf("w1 1 1;", 5);
    }

    private static void numbersOfManyFigures() {
        faultOf("e00;", 1);
        faultOf("e01;", 1);
        faultOf("k1 1 1 1 05 1;", 9);
        faultOf("e99;", 1);
        faultOf("e100;", 1);
        faultOf("e4294967297;", 1);
        faultOf("e18446744073709551617;", 1);
        faultOf("k1111;", 1);
        faultOf("e1 100;", 3);
        faultOf("e" + "9".repeat(119), 1);
    }

    private static void otherLetters() {
        faultOf("K", 0);
        faultOf("e1:", 2);
        faultOf("e/", 1);
        faultOf("e\t1;", 1);
        faultOf("e1;\n", 3);
        faultOf("e-1;", 1);
        faultOf("e1," , 2);
        faultOf("" + (char) 0, 0);
        faultOf("e1;" + (char) 255, 3);
        faultOf(" " + (char) 160, 1);
        faultOf("e1" + (char) 178 + ";", 2);
    }

    private static void tooEarly() {
        faultOf("e", 1);
        faultOf("e ", 2);
        faultOf("e1", 2);
        faultOf("e1  ", 4);
        faultOf("k1 1 1 1 1 1", 12);
        faultOf("k1 1 1 1 1 ", 11);
        faultOf("s1", 2);
        faultOf("e1" + " ".repeat(118), 120);
    }

    private static void firstFaultOnly() {
        faultOf("m0;K", 1);
        faultOf("K m0;", 0);
        faultOf("m1;m2;m3;", 3);
        faultOf("e1 w", 3);
        faultOf("e01 K", 1);
    }
}
