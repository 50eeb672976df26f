/**
 * For each number that a call takes: the least that may be, the greatest, all between them, and the one beyond on
 * either side. Each number is asked of an object of its own.
 */
public final class RangesTest {
    private static final int BAD = QuiltPatches.BAD;
    private static final int NO_END = Integer.MAX_VALUE;
    private static final String SIX = "k0 0 0 0 0 9;k0 0 0 1 1 9;k1 0 1 0 2 9;k1 1 1 1 3 9;k2 2 2 2 4 9;k9 9 9 9 5 9;";
    private static final Due DUE = new Due();

    private interface Ask {
        int of(QuiltPatches x, int number);
    }

    private static String text;

    public static void main(String[] args) {
        world("", 0, 4);
        world("w1 1;", 0, 1);
        world("k1 2 3 4 5 6;w1 2;", 1, 2);
        world("k1 2 3 4 5 6;k0 0 0 0 0 0;w2 1;", 2, 2);
        world("k1 2 3 4 5 6;w3 1;", 1, 3);
        world(SIX, 6, 4);
        world(SIX + "w3 2;e0;m1;s9 4;", 6, 6);
        DUE.end("RangesTest");
    }

    private static void world(String told, int kinds, int squares) {
        text = told;
        whatIsTold(kinds);
        whatIsDone(kinds, squares);
        squaresAndQuilts(kinds, squares);
        cloth();
        images();
    }

    private static void whatIsTold(int kinds) {
        range("type(n)", 0, 255, (x, n) -> x.type(n));
        range("kind(n, 0)", 0, kinds - 1, (x, n) -> x.kind(n, 0));
        range("kind(n, 6)", 0, kinds - 1, (x, n) -> x.kind(n, 6));
        range("kind(0, n)", 0, kinds > 0 ? 6 : -1, (x, n) -> x.kind(0, n));
        range("kind(last, n)", 0, kinds > 0 ? 6 : -1, (x, n) -> x.kind(kinds - 1, n));
        range("block(n, 0)", 0, 4 * kinds - 1, (x, n) -> x.block(n, 0));
        range("block(n, 4)", 0, 4 * kinds - 1, (x, n) -> x.block(n, 4));
        range("block(0, n)", 0, kinds > 0 ? 4 : -1, (x, n) -> x.block(0, n));
        range("block(last, n)", 0, kinds > 0 ? 4 : -1, (x, n) -> x.block(4 * kinds - 1, n));
    }

    private static void whatIsDone(int kinds, int squares) {
        int lastIfKinds = kinds > 0 ? squares - 1 : -1;
        range("lays(n, 0)", 0, lastIfKinds, (x, n) -> x.lays(n, 0));
        range("lays(0, n)", 0, 4 * kinds - 1, (x, n) -> x.lays(0, n));
        range("lays(last, n)", 0, 4 * kinds - 1, (x, n) -> x.lays(squares - 1, n));
        range("takes(n)", 0, squares - 1, (x, n) -> x.takes(n));
        range("buys(n, 1)", 0, kinds - 1, (x, n) -> x.buys(n, 1));
        range("buys(0, n)", 0, kinds > 0 ? 9 : -1, (x, n) -> x.buys(0, n));
        range("buys(last, n)", 0, kinds > 0 ? 9 : -1, (x, n) -> x.buys(kinds - 1, n));
    }

    private static void squaresAndQuilts(int kinds, int squares) {
        int lastIfKinds = kinds > 0 ? squares - 1 : -1;
        range("square(n)", 0, squares - 1, (x, n) -> x.square(n));
        range("fits(n, 0)", 0, lastIfKinds, (x, n) -> x.fits(n, 0));
        range("fits(0, n)", 0, 4 * kinds - 1, (x, n) -> x.fits(0, n));
        range("fits(last, n)", 0, 4 * kinds - 1, (x, n) -> x.fits(squares - 1, n));
        range("left(n, -1)", 0, squares - 1, (x, n) -> x.left(n, -1));
        range("left(n, 0)", 0, squares - 1, (x, n) -> x.left(n, 0));
        range("left(0, n)", -1, NO_END, (x, n) -> x.left(0, n));
        range("left(last, n)", -1, NO_END, (x, n) -> x.left(squares - 1, n));
        range("hue(n, 0)", 0, NO_END, (x, n) -> x.hue(n, 0));
        range("hue(n, 2)", 0, NO_END, (x, n) -> x.hue(n, 2));
        range("hue(0, n)", 0, 2, (x, n) -> x.hue(0, n));
        range("hue(99, n)", 0, 2, (x, n) -> x.hue(99, n));
        range("many(n)", 1, 300, (x, n) -> x.many(n));
        range("quilt(n, 0)", 0, 299, (x, n) -> x.quilt(n, 0));
        range("quilt(n, last)", 0, 299, (x, n) -> x.quilt(n, squares - 1));
        range("quilt(0, n)", 0, squares - 1, (x, n) -> x.quilt(0, n));
        range("quilt(299, n)", 0, squares - 1, (x, n) -> x.quilt(299, n));
        range("wanting(n)", 0, kinds - 1, (x, n) -> x.wanting(n));
    }

    private static void cloth() {
        range("piece(n, 0)", 0, 2, (x, n) -> x.piece(n, 0));
        range("piece(n, 1)", 0, 2, (x, n) -> x.piece(n, 1));
        range("piece(0, n)", 0, 1, (x, n) -> x.piece(0, n));
        range("piece(2, n)", 0, 1, (x, n) -> x.piece(2, n));
        range("good(n, 1)", 1, 24, (x, n) -> x.good(n, 1));
        range("good(n, 24)", 1, 24, (x, n) -> x.good(n, 24));
        range("good(1, n)", 1, 24, (x, n) -> x.good(1, n));
        range("good(24, n)", 1, 24, (x, n) -> x.good(24, n));
        range("cut(n, 1)", 1, 24, (x, n) -> x.cut(n, 1));
        range("cut(n, 24)", 1, 24, (x, n) -> x.cut(n, 24));
        range("cut(1, n)", 1, 24, (x, n) -> x.cut(1, n));
        range("cut(24, n)", 1, 24, (x, n) -> x.cut(24, n));
        range("made(n, 24, 0)", 1, 24, (x, n) -> x.made(n, 24, 0));
        range("made(24, n, 2)", 1, 24, (x, n) -> x.made(24, n, 2));
        range("made(1, 1, n)", 0, 2, (x, n) -> x.made(1, 1, n));
        range("made(24, 24, n)", 0, 2, (x, n) -> x.made(24, 24, n));
    }

    private static void images() {
        range("keep(n)", 0, 1, (x, n) -> x.keep(n));
        range("back(n)", 0, 1, (x, n) -> x.back(n));
        range("count(n)", 0, 10, (x, n) -> x.count(n));
    }

    /** From least to greatest nothing is BAD, all else is; if the greatest is below the least, all is BAD. */
    private static void range(String call, int least, int greatest, Ask ask) {
        bad(call, least - 1, ask);
        bad(call, least - 2, ask);
        bad(call, least - 256, ask);
        bad(call, Integer.MIN_VALUE, ask);
        if (greatest == NO_END) {
            for (int n : new int[] {least, 0, 1, 24, 1 << 30, NO_END - 1, NO_END}) {
                notBad(call, n, ask);
            }
            return;
        }
        for (int n = least; n <= greatest; n++) {
            notBad(call, n, ask);
        }
        bad(call, greatest + 1, ask);
        bad(call, greatest + 2, ask);
        bad(call, greatest + 256, ask);
        bad(call, Integer.MAX_VALUE, ask);
    }

    private static void bad(String call, int n, Ask ask) {
        DUE.is("'" + text + "' " + call + ", n = " + n, ask.of(Due.told(text), n), BAD);
    }

    private static void notBad(String call, int n, Ask ask) {
        int got = ask.of(Due.told(text), n);
        DUE.holds("'" + text + "' " + call + ", n = " + n + " is not BAD", got != BAD);
    }
}
