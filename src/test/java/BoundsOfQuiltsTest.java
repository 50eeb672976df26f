/** The document's sentences on WINNOWED, QUILTS, SURE, NEXT, WANTING and HUES: a method for each boundary named. */
public final class BoundsOfQuiltsTest {
    private static final int BAD = QuiltPatches.BAD;
    private static final int STATE = QuiltPatches.STATE;
    private static final int NONE = QuiltPatches.NONE;
    private static final String QUILTS_299 = "k0 1 1 0 0 9;k1 2 2 0 1 9;k2 1 0 1 2 9;w2 2;";
    private static final String QUILTS_300 = "k1 1 0 1 0 4;k0 0 0 0 1 9;k1 1 0 1 2 1;w3 2;";
    private static final String QUILTS_301 = "k1 1 1 1 0 9;k0 1 1 1 1 9;k0 1 1 1 2 9;w3 1;";
    /** Three in a row with a rim, in two ways: 0 4 8 and, the other way about, 10 6 2. */
    private static final String ENDS = "k9 1 9 9 0 9;k9 2 9 1 1 9;k9 9 9 2 2 9;w3 1;e9;";
    /** Six kinds of one look: as many quilts as there are ways to choose. */
    private static final String ALIKE = "k0 0 0 0 0 9;k0 0 0 0 1 9;k0 0 0 0 2 9;k0 0 0 0 3 9;k0 0 0 0 4 9;k0 0 0 0 5 9;";
    private static final Due DUE = new Due();

    public static void main(String[] args) {
        leftOfNoneAndOfAll();
        leftBeyondTheLast();
        beginsWithWhatFits();
        plainOnly();
        againAndAgain();
        allGoes();
        laidSquaresHoldOn();
        stocksAreNotSharedOut();
        noneOpenIsOneQuilt();
        oneSquareOpen();
        noKindsIsNoQuilt();
        mostThatAreCounted();
        lastQuiltThatIsTold();
        orderOfQuilts();
        stockIsUsedUp();
        hueIsUsedUp();
        sureOfAllAndNone();
        sureWithoutAQuilt();
        nextOfSeveral();
        nextWhereNoneIsLeft();
        nextOfNone();
        wantingLeastAndMost();
        wantingNone();
        wantingCountsWhatIsLaid();
        huesInOrder();
        huesBeyond();
        nothingOfAnEarlierText();
        DUE.end("BoundsOfQuiltsTest");
    }

    private static void due(String call, int got, int want) {
        DUE.is(call, got, want);
    }

    /** What is left for a square, all of it and one more. */
    private static void leftAre(QuiltPatches x, int square, int... blocks) {
        due("left(" + square + ", -1)", x.left(square, -1), blocks.length);
        for (int i = 0; i < blocks.length; i++) {
            due("left(" + square + ", " + i + ")", x.left(square, i), blocks[i]);
        }
        due("left(" + square + ", " + blocks.length + ")", x.left(square, blocks.length), NONE);
    }

    private static void quiltIs(QuiltPatches x, int k, int... blocks) {
        for (int s = 0; s < blocks.length; s++) {
            due("quilt(" + k + ", " + s + ")", x.quilt(k, s), blocks[s]);
        }
        due("quilt(" + k + ", one more)", x.quilt(k, blocks.length), BAD);
    }

    private static void noQuilt(QuiltPatches x, int k, int squares) {
        for (int s = 0; s < squares; s++) {
            due("quilt(" + k + ", " + s + ")", x.quilt(k, s), NONE);
        }
    }

    /** how many BLOCKS are left for an OPEN SQUARE (i = -1): from none to all twenty-four. */
    private static void leftOfNoneAndOfAll() {
        leftAre(new QuiltPatches(), 0);
        leftAre(Due.told("w1 1;k0 1 2 3 0 0;"), 0);
        leftAre(Due.told("w1 1;k0 1 2 3 0 1;"), 0, 0, 1, 2, 3);
        QuiltPatches x = Due.told("k0 1 2 3 0 1;".repeat(6) + "w1 1;");
        due("left(0, -1) of all", x.left(0, -1), 24);
        for (int i = 0; i < 24; i++) {
            due("left(0, " + i + ") of all", x.left(0, i), i);
        }
        due("left(0, 24) of all", x.left(0, 24), NONE);
        due("next() where all are left", x.next(), 0);
        due("many(300) where all are left", x.many(300), 24);
    }

    /** the i-th (0 on) of these; NONE: not so many; BAD (i below -1). */
    private static void leftBeyondTheLast() {
        QuiltPatches x = Due.told("w1 1;k0 0 0 1 0 1;");
        due("left(0, 3)", x.left(0, 3), 3);
        due("left(0, 4)", x.left(0, 4), NONE);
        due("left(0, 31)", x.left(0, 31), NONE);
        due("left(0, 32)", x.left(0, 32), NONE);
        due("left(0, greatest)", x.left(0, Integer.MAX_VALUE), NONE);
        due("left(0, -2)", x.left(0, -2), BAD);
        due("left(0, least)", x.left(0, Integer.MIN_VALUE), BAD);
        x.lays(0, 0);
        due("left(0, 4): none is open", x.left(0, 4), STATE);
        due("left(0, -2): none is open", x.left(0, -2), BAD);
    }

    /** each OPEN SQUARE begins with all PLAIN BLOCKS that FIT it: each WHY keeps one away. */
    private static void beginsWithWhatFits() {
        QuiltPatches x = Due.told("k0 0 0 0 0 1;k0 0 0 0 1 9;k0 0 0 1 2 9;k1 1 1 1 3 9;w2 1;m1;");
        leftAre(x, 1, 0, 4, 8, 9, 10, 11, 12);
        x.lays(0, 0);
        // 0: none left; 8 and 12: the seam.
        leftAre(x, 1, 4, 9, 10, 11);
        x.buys(0, 2);
        // 0: the hue is there once.
        leftAre(x, 1, 4, 9, 10, 11);
        x.takes(0);
        x.buys(1, 0);
        leftAre(x, 1, 0, 8, 9, 10, 11, 12);
        leftAre(Due.told("k0 0 0 0 0 1;k0 0 0 1 2 9;w3 2;e0;"), 0, 0, 6, 7);
    }

    /** PLAIN BLOCKS alone are left and in QUILTS; what is laid need not be PLAIN. */
    private static void plainOnly() {
        QuiltPatches x = Due.told("k0 0 0 0 0 9;k0 1 0 1 1 9;w1 1;");
        leftAre(x, 0, 0, 4, 5);
        due("many(300)", x.many(300), 3);
        quiltIs(x, 2, 5);
        noQuilt(x, 3, 1);
        due("lays(0, 7)", x.lays(0, 7), 0);
        quiltIs(x, 0, 7);
    }

    /** then, again and again, .. till nothing more goes: here in five rounds. */
    private static void againAndAgain() {
        QuiltPatches x = Due.told("k1 3 0 0 0 9;k0 0 0 1 0 9;k0 3 2 0 0 9;k2 3 0 2 0 9;w3 2;e0;");
        leftAre(x, 0, 6, 7);
        leftAre(x, 1, 1, 4, 6, 7, 8);
        leftAre(x, 2, 2, 4, 7);
        leftAre(x, 3, 0, 5, 6);
        leftAre(x, 4, 3, 4, 5, 6, 10);
        leftAre(x, 5, 4, 5);
        due("next()", x.next(), 0);
        due("many(300)", x.many(300), 4);
    }

    /** none that is still there in the OPEN SQUARE on that hand: where nothing is there, all goes. */
    private static void allGoes() {
        QuiltPatches x = Due.told("k0 0 2 1 0 9;k3 1 0 3 0 9;k2 0 0 3 0 9;k1 3 0 2 0 9;k0 1 3 0 0 9;w3 2;e0;");
        for (int s = 0; s < 6; s++) {
            leftAre(x, s);
        }
        // Here each square loses something in the first round, and all that it has later.
        QuiltPatches z = Due.told("k1 1 0 0 0 9;k0 0 2 1 0 9;w3 2;e0;");
        for (int s = 0; s < 6; s++) {
            leftAre(z, s);
        }
        QuiltPatches y = Due.told(ENDS);
        leftAre(y, 0, 0, 10);
        leftAre(y, 1, 4, 6);
        leftAre(y, 2, 2, 8);
        y.buys(2, 0);
        for (int s = 0; s < 3; s++) {
            leftAre(y, s);
        }
    }

    /** in the OPEN SQUARE on that hand: a SQUARE that has a BLOCK takes nothing away but by FITS, nor does the side. */
    private static void laidSquaresHoldOn() {
        QuiltPatches x = Due.told(ENDS);
        x.lays(1, 4);
        leftAre(x, 0, 0);
        leftAre(x, 2, 8);
        x.buys(2, 0);
        leftAre(x, 0, 0);
        leftAre(x, 2);
        due("left(1, -1)", x.left(1, -1), STATE);
        leftAre(Due.told("w1 1;k0 1 2 3 0 9;"), 0, 0, 1, 2, 3);
    }

    /** WINNOWED looks at what FITS now: one block of a kind is left for all squares at once. */
    private static void stocksAreNotSharedOut() {
        QuiltPatches x = Due.told("k0 0 0 0 0 1;w3 2;m1;");
        for (int s = 0; s < 6; s++) {
            leftAre(x, s, 0);
        }
        due("many(300)", x.many(300), 0);
        x.lays(5, 0);
        for (int s = 0; s < 5; s++) {
            leftAre(x, s);
        }
    }

    /** (If none is OPEN: one QUILT.) */
    private static void noneOpenIsOneQuilt() {
        QuiltPatches x = Due.told("k0 0 0 0 0 6;w3 2;m6;");
        for (int s = 0; s < 6; s++) {
            x.lays(s, 5 - s > 3 ? 3 : 5 - s);
        }
        for (int stock : new int[] {6, 0, 9}) {
            x.buys(0, stock);
            due("many(1)", x.many(1), 1);
            due("many(300)", x.many(300), 1);
            quiltIs(x, 0, 3, 3, 3, 2, 1, 0);
            noQuilt(x, 1, 6);
            noQuilt(x, 299, 6);
            due("sure(): no square is open", x.sure(), 0);
            due("next(): no square is open", x.next(), NONE);
            due("wanting(0)", x.wanting(0), 0);
        }
    }

    /** One SQUARE alone OPEN. */
    private static void oneSquareOpen() {
        QuiltPatches x = Due.told("k0 0 0 0 0 9;k0 0 0 0 1 9;w3 2;");
        for (int s = 0; s < 5; s++) {
            x.lays(s, 1);
        }
        due("many(300)", x.many(300), 2);
        quiltIs(x, 0, 1, 1, 1, 1, 1, 0);
        quiltIs(x, 1, 1, 1, 1, 1, 1, 4);
        noQuilt(x, 2, 6);
        due("next()", x.next(), 5);
        due("sure()", x.sure(), 0);
        x.buys(1, 0);
        due("many(300) of one kind", x.many(300), 1);
        due("sure() of the last", x.sure(), 32);
    }

    /** No KINDS: no QUILT, as all SQUARES are OPEN. */
    private static void noKindsIsNoQuilt() {
        for (String text : new String[] {"", "w1 1;", "w3 2;", "e0;m1;"}) {
            QuiltPatches x = Due.told(text);
            due("many(300) of '" + text + "'", x.many(300), 0);
            due("quilt(0, 0) of '" + text + "'", x.quilt(0, 0), NONE);
            due("sure() of '" + text + "'", x.sure(), 0);
            due("next() of '" + text + "'", x.next(), 0);
            due("wanting(0) of '" + text + "'", x.wanting(0), BAD);
        }
    }

    /** How many QUILTS there are, most (1 .. 300) at most. */
    private static void mostThatAreCounted() {
        String[] texts = {QUILTS_299, QUILTS_300, QUILTS_301, ALIKE};
        int[] counts = {299, 300, 301, 1296};
        for (int i = 0; i < texts.length; i++) {
            QuiltPatches x = Due.told(texts[i]);
            for (int most : new int[] {1, 2, 150, 298, 299, 300}) {
                due(counts[i] + " quilts: many(" + most + ")", x.many(most), Math.min(most, counts[i]));
            }
            due(counts[i] + " quilts: many(301)", x.many(301), BAD);
            due(counts[i] + " quilts: many(0)", x.many(0), BAD);
        }
    }

    /** the k-th QUILT (0 .. 299); NONE: there are not so many. */
    private static void lastQuiltThatIsTold() {
        QuiltPatches less = Due.told(QUILTS_299);
        quiltIs(less, 298, 11, 9, 11, 9);
        noQuilt(less, 299, 4);
        due("quilt(300, 0) of 299", less.quilt(300, 0), BAD);
        QuiltPatches just = Due.told(QUILTS_300);
        quiltIs(just, 0, 0, 0, 0, 4, 4, 4);
        quiltIs(just, 298, 11, 4, 4, 1, 2, 2);
        quiltIs(just, 299, 11, 4, 4, 3, 4, 4);
        due("quilt(300, 0) of 300", just.quilt(300, 0), BAD);
        QuiltPatches more = Due.told(QUILTS_301);
        quiltIs(more, 299, 11, 10, 9);
        due("quilt(300, 0) of 301", more.quilt(300, 0), BAD);
    }

    /** They are in order by the first OPEN SQUARE's BLOCK (the lower first), then the second one's .. */
    private static void orderOfQuilts() {
        QuiltPatches x = Due.told(ALIKE + "w3 1;");
        for (int k = 0; k < 216; k += 43) {
            quiltIs(x, k, k / 36 * 4, k / 6 % 6 * 4, k % 6 * 4);
        }
        quiltIs(x, 215, 20, 20, 20);
        noQuilt(x, 216, 3);
        x.lays(1, 15);
        quiltIs(x, 7, 4, 15, 4);
        quiltIs(x, 35, 20, 15, 20);
        noQuilt(x, 36, 3);
        QuiltPatches y = Due.told(ENDS);
        quiltIs(y, 0, 0, 4, 8);
        quiltIs(y, 1, 10, 6, 2);
        noQuilt(y, 2, 3);
    }

    /** laid one after the other, each FITS: no more of a KIND than its STOCK. */
    private static void stockIsUsedUp() {
        int[] quilts = {1, 5, 11, 15, 16, 16};
        for (int stock = 0; stock < quilts.length; stock++) {
            QuiltPatches x = Due.told("k0 0 0 0 0 9;k0 0 0 0 1 " + stock + ";");
            due("many(300) with a stock of " + stock, x.many(300), quilts[stock]);
        }
        due("just enough in all", Due.told("k0 0 0 0 0 2;k0 0 0 0 1 2;").many(300), 6);
        due("one too few in all", Due.told("k0 0 0 0 0 2;k0 0 0 0 1 1;").many(300), 0);
        QuiltPatches less = Due.told("k0 0 0 0 0 1;k0 0 0 0 0 3;");
        less.lays(0, 0);
        less.buys(0, 0);
        due("less than none of one kind takes nothing from another", less.many(300), 1);
        due("nor is that one wanting", less.wanting(0), 0);
        due("the other one is wanting just so", less.wanting(1), 3);
        QuiltPatches y = Due.told("k0 0 0 0 0 3;");
        due("one too few of one kind", y.many(300), 0);
        y.lays(0, 0);
        y.buys(0, 4);
        due("just enough of one kind", y.many(300), 1);
    }

    /** laid one after the other, each FITS: no more of a HUE than MOST. */
    private static void hueIsUsedUp() {
        int[] quilts = {0, 6, 14, 16, 16};
        for (int most = 1; most <= quilts.length; most++) {
            QuiltPatches x = Due.told("k0 0 0 0 2 9;k0 0 0 0 5 9;m" + most + ";");
            due("many(300) with most " + most, x.many(300), quilts[most - 1]);
        }
        QuiltPatches laid = Due.told("k0 0 0 0 2 9;k0 0 0 0 5 9;w3 1;m2;");
        laid.lays(1, 0);
        due("a hue that is laid counts", laid.many(300), 3);
        quiltIs(laid, 0, 0, 0, 4);
        quiltIs(laid, 2, 4, 0, 4);
        lastBlockOfTheLastHue();
        due("two kinds of one hue", Due.told("k0 0 0 0 2 9;k0 0 0 0 2 9;m3;").many(300), 0);
        due("two kinds of one hue, just so often", Due.told("k0 0 0 0 2 9;k0 0 0 0 2 9;m4;").many(300), 16);
    }

    /** All other hues are there as often as they may be, all other stocks are used up: still one QUILT. */
    private static void lastBlockOfTheLastHue() {
        for (int last = 0; last < 6; last++) {
            QuiltPatches x = Due.told(ALIKE.replace("9;", "1;") + "w3 2;m1;");
            for (int k = 0; k < 6; k++) {
                if (k != last) {
                    x.lays(k, 4 * k);
                }
            }
            due("many(300) of the last, " + last, x.many(300), 1);
            due("quilt(0, last) of the last, " + last, x.quilt(0, last), 4 * last);
            due("sure() of the last, " + last, x.sure(), 1 << last);
            due("wanting(last) of the last, " + last, x.wanting(last), 1);
            x.buys(last, 0);
            due("many(300) without the last, " + last, x.many(300), 0);
        }
    }

    /** SURE: OPEN SQUARES (bits) that have the same BLOCK in all QUILTS. */
    private static void sureOfAllAndNone() {
        int[][] sizes = {{1, 1, 1}, {2, 1, 3}, {3, 1, 7}, {1, 2, 3}, {2, 2, 15}, {3, 2, 63}};
        for (int[] size : sizes) {
            String text = "w" + size[0] + " " + size[1] + ";";
            due("sure() of one kind, " + text, Due.told("k0 0 0 0 0 9;" + text).sure(), size[2]);
            due("sure() of two kinds, " + text, Due.told("k0 0 0 0 0 9;k0 0 0 0 0 9;" + text).sure(), 0);
        }
        for (int s = 0; s < 6; s++) {
            QuiltPatches x = Due.told("k0 0 0 0 0 9;w3 2;");
            x.lays(s, 3);
            due("sure() with " + s + " laid", x.sure(), 63 - (1 << s));
        }
        // The ends can be either way about, the middle as well.
        due("sure() of two quilts that differ everywhere", Due.told(ENDS).sure(), 0);
        due("sure() of the middle alone", Due.told("k9 1 9 9 0 9;k9 1 9 9 1 9;k9 1 9 1 2 9;w3 1;e9;").sure(), 2);
        // More than 300 quilts: the last of them counts as well.
        due("sure() of 1296 quilts", Due.told(ALIKE).sure(), 0);
    }

    /** (0, if there is no QUILT). */
    private static void sureWithoutAQuilt() {
        QuiltPatches x = Due.told("k0 0 0 0 0 5;w3 2;");
        due("many(1): one block is wanting", x.many(1), 0);
        due("sure(): one block is wanting", x.sure(), 0);
        due("left(0, 0): though something is left", x.left(0, 0), 0);
        x.buys(0, 6);
        due("sure(): none is wanting", x.sure(), 63);
        for (int s = 0; s < 5; s++) {
            x.lays(s, 0);
        }
        due("sure() of the last", x.sure(), 32);
        x.buys(0, 5);
        due("sure() of the last without a block", x.sure(), 0);
    }

    /** NEXT: the OPEN SQUARE for which fewest are left, WINNOWED, of several the lowest. */
    private static void nextOfSeveral() {
        QuiltPatches x = Due.told("k0 0 0 0 0 9;w3 2;");
        for (int s = 0; s < 6; s++) {
            due("next() of as many everywhere", x.next(), s);
            x.lays(s, 0);
        }
        due("next() of none", x.next(), NONE);
        x.takes(5);
        due("next() of the last", x.next(), 5);
        x.takes(2);
        due("next() of two", x.next(), 2);
        QuiltPatches y = Due.told("k9 1 9 9 0 9;k9 1 9 9 1 9;k9 1 9 1 2 9;w3 1;e9;");
        due("next() where fewest are", y.next(), 1);
        y.lays(1, 8);
        due("next(): it is not open", y.next(), 0);
        y.lays(0, 0);
        due("next(): the other end", y.next(), 2);
    }

    /** fewest are left: none, too. */
    private static void nextWhereNoneIsLeft() {
        QuiltPatches x = Due.told("k0 0 0 0 0 9;k0 0 0 1 1 1;w3 2;");
        x.lays(4, 5);
        due("left(1, -1): nothing meets square 4", x.left(1, -1), 0);
        due("left(0, -1): nothing is left beside it", x.left(0, -1), 0);
        due("next() of nothing anywhere", x.next(), 0);
        QuiltPatches y = Due.told("k0 0 0 0 0 9;k5 5 5 5 1 1;w3 2;");
        y.lays(1, 0);
        y.lays(4, 0);
        y.lays(5, 0);
        y.lays(0, 0);
        y.takes(4);
        y.takes(1);
        y.takes(0);
        due("left(0, -1) beside open squares", y.left(0, -1), 1);
        y.lays(0, 4);
        due("left(1, -1) beside a 5", y.left(1, -1), 0);
        due("left(2, -1) beside nothing", y.left(2, -1), 0);
        due("next(): the lowest open one", y.next(), 1);
        QuiltPatches z = Due.told("k0 0 0 0 0 9;k5 5 5 5 1 1;w3 1;");
        z.lays(1, 0);
        z.lays(0, 0);
        z.undo();
        due("next() of one left at each end", z.next(), 0);
        z.buys(0, 1);
        due("next() of none left at each end", z.next(), 0);
        due("left(2, -1) of none", z.left(2, -1), 0);
    }

    /** NONE: none is OPEN. */
    private static void nextOfNone() {
        QuiltPatches x = Due.told("k0 0 0 0 0 9;w1 1;");
        due("next() of one", x.next(), 0);
        x.lays(0, 0);
        due("next() of none", x.next(), NONE);
        x.undo();
        due("next() of one again", x.next(), 0);
    }

    /** WANTING of a KIND: the least STOCK (0 .. 9) of it, all else as it is, by which there is a QUILT. */
    private static void wantingLeastAndMost() {
        for (int other = 0; other <= 9; other++) {
            for (int stock : new int[] {0, 3, 9}) {
                QuiltPatches x = Due.told("k0 0 0 0 0 " + stock + ";k0 0 0 0 1 " + other + ";w3 2;");
                due("wanting(0) beside " + other + ", stock " + stock, x.wanting(0), Math.max(6 - other, 0));
            }
        }
        due("wanting(0) of one square", Due.told("k0 0 0 0 0 0;w1 1;").wanting(0), 1);
        QuiltPatches last = Due.told(ALIKE);
        due("wanting(5)", last.wanting(5), 0);
        due("wanting(6)", last.wanting(6), BAD);
    }

    /** NONE: not by 9, either. */
    private static void wantingNone() {
        due("against the hue", Due.told("k0 0 0 0 0 9;m3;").wanting(0), NONE);
        due("just by the hue", Due.told("k0 0 0 0 0 0;m4;").wanting(0), 4);
        due("against the rim", Due.told("k0 0 0 1 0 9;w1 1;e0;").wanting(0), NONE);
        due("another kind is wanting", Due.told("k0 0 0 0 0 0;k1 1 1 1 1 0;w1 1;e0;").wanting(1), NONE);
        due("it is this kind", Due.told("k0 0 0 0 0 0;k1 1 1 1 1 0;w1 1;e0;").wanting(0), 1);
    }

    /** LEFT is the STOCK less what SQUARES have: what is laid counts, if any more is needed. */
    private static void wantingCountsWhatIsLaid() {
        QuiltPatches x = Due.told("k0 0 0 0 0 9;w3 2;");
        for (int s = 0; s < 5; s++) {
            x.lays(s, 0);
            due("wanting(0) with " + (s + 1) + " laid", x.wanting(0), 6);
        }
        x.buys(0, 1);
        due("wanting(0) with less stock than laid", x.wanting(0), 6);
        due("kind(0, 5): the stock is as it was", x.kind(0, 5), 1);
        x.buys(0, 6);
        x.lays(5, 0);
        due("wanting(0) with all laid", x.wanting(0), 0);
    }

    /** HUES are numbered as they come first in the order of KINDS. */
    private static void huesInOrder() {
        QuiltPatches x = Due.told("k0 0 0 0 5 9;k0 0 0 0 0 9;k0 0 0 0 5 9;k0 0 0 0 3 9;k0 0 0 0 0 9;k0 0 0 0 5 9;w3 2;");
        x.lays(0, 20);
        x.lays(1, 4);
        x.lays(2, 0);
        int[][] hues = {{5, 3, 2}, {0, 2, 1}, {3, 1, 0}};
        for (int i = 0; i < hues.length; i++) {
            for (int what = 0; what < 3; what++) {
                due("hue(" + i + ", " + what + ")", x.hue(i, what), hues[i][what]);
            }
        }
        due("count(10)", x.count(10), 3);
        due("hue(3, 0)", x.hue(3, 0), NONE);
        x.clears();
        due("hue(0, 2) of none laid", x.hue(0, 2), 0);
    }

    /** The i-th of HUES (0 on); NONE: not so many. */
    private static void huesBeyond() {
        QuiltPatches x = Due.told("k0 0 0 0 5 9;k0 0 0 0 4 9;k0 0 0 0 3 9;k0 0 0 0 2 9;k0 0 0 0 1 9;k0 0 0 0 0 9;w3 2;");
        for (int s = 0; s < 6; s++) {
            x.lays(s, 0);
        }
        for (int i = 0; i < 6; i++) {
            due("hue(" + i + ", 0) of six", x.hue(i, 0), 5 - i);
            due("hue(" + i + ", 1) of six", x.hue(i, 1), 1);
            due("hue(" + i + ", 2) of six", x.hue(i, 2), i == 0 ? 6 : 0);
        }
        for (int what = 0; what < 3; what++) {
            due("hue(6, " + what + ") of six", x.hue(6, what), NONE);
            due("hue(greatest, " + what + ")", x.hue(Integer.MAX_VALUE, what), NONE);
            due("hue(-1, " + what + ")", x.hue(-1, what), BAD);
            due("hue(0, " + what + ") of none", new QuiltPatches().hue(0, what), NONE);
        }
        due("hue(6, 3)", x.hue(6, 3), BAD);
        due("count(10) of six", x.count(10), 6);
        due("count(10) of one", Due.told("k0 0 0 0 4 9;".repeat(6)).count(10), 1);
    }

    /** THE TEXT tells all anew: blocks of the one before, and of the one before that, are not met any more. */
    private static void nothingOfAnEarlierText() {
        QuiltPatches x = Due.told("k1 2 3 4 0 9;k5 6 7 8 1 9;k0 0 0 0 2 9;w1 1;");
        String[] texts = {"k0 0 0 0 0 9;w1 1;", "k5 5 5 5 0 9;w1 1;", "w1 1;", "k1 1 1 1 0 9;w1 1;", "k0 0 0 0 0 9;w2 1;", ""};
        int[] leftThen = {1, 1, 0, 1, 1, 0};
        for (int i = 0; i < texts.length; i++) {
            Due.type(x, texts[i]);
            x.tells();
            due("left(0, -1) of '" + texts[i] + "'", x.left(0, -1), leftThen[i]);
            due("many(300) of '" + texts[i] + "'", x.many(300), leftThen[i]);
            due("next() of '" + texts[i] + "'", x.next(), 0);
        }
        Due.type(x, "k3 3 3 3 0 9;k1 0 1 0 0 9;w2 1;");
        x.tells();
        leftAre(x, 0, 0, 4, 5);
        leftAre(x, 1, 0, 4, 5);
        due("many(300)", x.many(300), 3);
    }
}
