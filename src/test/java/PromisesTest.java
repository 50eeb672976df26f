/** One method for each promise of the document: ordinary inputs, edges, wrong inputs. */
public final class PromisesTest {
    private static final int BAD = QuiltPatches.BAD;
    private static final int STATE = QuiltPatches.STATE;
    private static final int FULL = QuiltPatches.FULL;
    private static final int NONE = QuiltPatches.NONE;
    /** Three kinds, three by two squares, a rim; kind 2 is out of stock and the same at each turn. */
    private static final String RIMMED = "k0 1 2 3 2 2;k0 0 1 1 5 9;k4 4 4 4 2 0;w3 2;e0;m2;s2 2;";
    /** Three squares in a row with just one quilt: 0, 8, 2. */
    private static final String ONE_QUILT = "k0 1 0 0 0 2;k0 2 0 1 1 9;k0 1 0 1 2 1;w3 1;e0;";
    /** Two squares, one kind, ten quilts. */
    private static final String TEN_QUILTS = "k0 0 0 1 0 9;w2 1;";

    private static final Due DUE = new Due();

    public static void main(String[] args) {
        constants();
        promise1New();
        promise2Type();
        promise3Clear();
        promise4Tells();
        promise5Kind();
        promise6Block();
        promise7Lays();
        promise8Takes();
        promise9Buys();
        promise10Clears();
        promise11Undo();
        promise12Square();
        promise13Fits();
        promise14Left();
        promise15Hue();
        promise16Many();
        promise17Quilt();
        promise18Sure();
        promise19Next();
        promise20Wanting();
        promise21Piece();
        promise22Good();
        promise23Cut();
        promise24Made();
        promise25Keep();
        promise26Back();
        promise27Count();
        DUE.end("PromisesTest");
    }

    private static void due(String call, int got, int want) {
        DUE.is(call, got, want);
    }

    /** What count() answers for 0, 1, .. in this order. */
    private static void counts(String when, QuiltPatches x, int... want) {
        for (int what = 0; what < want.length; what++) {
            due(when + ": count(" + what + ")", x.count(what), want[what]);
        }
    }

    private static void squares(String when, QuiltPatches x, int... want) {
        for (int s = 0; s < want.length; s++) {
            due(when + ": square(" + s + ")", x.square(s), want[s]);
        }
        due(when + ": one square more", x.square(want.length), BAD);
    }

    private static void constants() {
        due("BAD", QuiltPatches.BAD, -1);
        due("STATE", QuiltPatches.STATE, -2);
        due("FULL", QuiltPatches.FULL, -3);
        due("NONE", QuiltPatches.NONE, -9);
    }

    private static void promise1New() {
        QuiltPatches x = new QuiltPatches();
        counts("new", x, 0, 2, 2, NONE, 9, 4, 1, 4, 0, 0, 0);
        squares("new", x, NONE, NONE, NONE, NONE);
        due("new: kind(0, 0)", x.kind(0, 0), BAD);
        due("new: block(0, 0)", x.block(0, 0), BAD);
        due("new: undo()", x.undo(), STATE);
        due("new: back(0)", x.back(0), STATE);
        due("new: clear()", x.clear(), 0);
        due("new: many(1)", x.many(1), 0);
        due("new: piece(0, 0)", x.piece(0, 0), 4);
        due("new: piece(1, 0)", x.piece(1, 0), 1);
        due("new: piece(2, 1)", x.piece(2, 1), 10);
        due("new: next()", x.next(), 0);
        due("new: left(3, -1)", x.left(3, -1), 0);
    }

    private static void promise2Type() {
        QuiltPatches x = new QuiltPatches();
        due("type(-1)", x.type(-1), BAD);
        due("type(256)", x.type(256), BAD);
        due("type(0)", x.type(0), 1);
        due("type(255)", x.type(255), 2);
        for (int i = 3; i <= 120; i++) {
            due("type(32), the " + i + "th", x.type(32), i);
        }
        due("type(32), the 121st", x.type(32), FULL);
        due("type(256), the 121st", x.type(256), BAD);
        due("count(8) of a full text", x.count(8), 120);
        due("tells() of a 0 ahead", x.tells(), -10);
    }

    private static void promise3Clear() {
        QuiltPatches x = new QuiltPatches();
        Due.type(x, "k1 2");
        due("clear()", x.clear(), 4);
        due("clear() again", x.clear(), 0);
        due("count(8) behind clear()", x.count(8), 0);
        due("tells() behind clear()", x.tells(), 0);
        due("type() behind clear()", x.type('e'), 1);
    }

    private static void promise4Tells() {
        QuiltPatches x = Due.told(RIMMED);
        x.keep(0);
        x.lays(0, 7);
        Due.type(x, "k1 1 1 1 1 1;w1 3;");
        due("tells() with a fault", x.tells(), -10 - 16);
        counts("a fault", x, 3, 3, 2, 0, 2, 2, 2, 5, 18, 1, 2);
        due("a fault: the square stays", x.square(0), 7);
        due("a fault: the image stays", x.back(0), 6);
        x.lays(0, 7);
        x.clear();
        Due.type(x, " k 9 8 7 6 5 4 ; ");
        due("tells() of one kind", x.tells(), 1);
        counts("told anew", x, 1, 2, 2, NONE, 9, 4, 1, 4, 0, 0, 1);
        squares("told anew", x, NONE, NONE, NONE, NONE);
        due("told anew: undo()", x.undo(), STATE);
        due("told anew: back(0)", x.back(0), STATE);
        due("told anew: kind(0, 0)", x.kind(0, 0), 9);
        due("told anew: kind(0, 5)", x.kind(0, 5), 4);
        due("told anew: kind(1, 0)", x.kind(1, 0), BAD);
        due("tells() of nothing", x.tells(), 0);
        due("count(0) of nothing", x.count(0), 0);
        Due.type(x, "   ");
        due("tells() of blanks", x.tells(), 0);
        due("count(8) behind blanks", x.count(8), 0);
        Due.type(x, "s9 4;m1;e9;w3 2;");
        due("tells() of four", x.tells(), 4);
        counts("four", x, 0, 3, 2, 9, 1, 9, 4, 6);
    }

    private static void promise5Kind() {
        QuiltPatches x = Due.told(RIMMED);
        int[] want = {0, 1, 2, 3, 2, 2, 102};
        for (int what = 0; what < want.length; what++) {
            due("kind(0, " + what + ")", x.kind(0, what), want[what]);
        }
        due("kind(1, 4)", x.kind(1, 4), 5);
        due("kind(2, 6)", x.kind(2, 6), 100);
        x.lays(0, 7);
        due("kind(1, 6) with one laid", x.kind(1, 6), 108);
        due("kind(1, 5) with one laid", x.kind(1, 5), 9);
        x.buys(1, 0);
        due("kind(1, 6) below none", x.kind(1, 6), 99);
        due("kind(1, 5) bought", x.kind(1, 5), 0);
        due("kind(-1, 0)", x.kind(-1, 0), BAD);
        due("kind(3, 0)", x.kind(3, 0), BAD);
        due("kind(0, -1)", x.kind(0, -1), BAD);
        due("kind(0, 7)", x.kind(0, 7), BAD);
    }

    private static void promise6Block() {
        QuiltPatches x = Due.told("k0 1 2 3 0 1;k5 6 5 6 0 1;k4 4 4 4 0 1;k0 0 0 7 0 1;");
        int[][] want = {{0, 1, 2, 3, 1}, {3, 0, 1, 2, 1}, {2, 3, 0, 1, 1}, {1, 2, 3, 0, 1},
            {5, 6, 5, 6, 1}, {6, 5, 6, 5, 1}, {5, 6, 5, 6, 0}, {6, 5, 6, 5, 0},
            {4, 4, 4, 4, 1}, {4, 4, 4, 4, 0}, {4, 4, 4, 4, 0}, {4, 4, 4, 4, 0},
            {0, 0, 0, 7, 1}, {7, 0, 0, 0, 1}, {0, 7, 0, 0, 1}, {0, 0, 7, 0, 1}};
        for (int b = 0; b < want.length; b++) {
            for (int what = 0; what < 5; what++) {
                due("block(" + b + ", " + what + ")", x.block(b, what), want[b][what]);
            }
        }
        due("block(-1, 0)", x.block(-1, 0), BAD);
        due("block(16, 0)", x.block(16, 0), BAD);
        due("block(0, -1)", x.block(0, -1), BAD);
        due("block(0, 5)", x.block(0, 5), BAD);
    }

    private static void promise7Lays() {
        QuiltPatches x = Due.told(RIMMED);
        due("lays(0, 8): none left", x.lays(0, 8), -11);
        due("lays(0, 4): the rim at the left", x.lays(0, 4), -13);
        due("count(9) behind refusals", x.count(9), 0);
        due("lays(0, 7)", x.lays(0, 7), 5);
        due("lays(0, 7) again", x.lays(0, 7), STATE);
        due("lays(0, 8): STATE is ahead of WHY", x.lays(0, 8), STATE);
        due("lays(0, 12): BAD is ahead of STATE", x.lays(0, 12), BAD);
        due("lays(1, 7): the seam at the left", x.lays(1, 7), -12);
        due("lays(1, 4)", x.lays(1, 4), 4);
        due("lays(2, 4): the seam is ahead of rim and hue", x.lays(2, 4), -12);
        due("lays(2, 7): the rim is ahead of the hue", x.lays(2, 7), -13);
        due("lays(3, 6): the hue is there twice", x.lays(3, 6), -14);
        x.buys(1, 2);
        due("lays(2, 4): none left is ahead of the seam", x.lays(2, 4), -11);
        due("lays(-1, 0)", x.lays(-1, 0), BAD);
        due("lays(6, 0)", x.lays(6, 0), BAD);
        due("lays(0, -1)", x.lays(0, -1), BAD);
        squares("laid", x, 7, 4, NONE, NONE, NONE, NONE);
        QuiltPatches y = Due.told("k1 1 1 1 0 9;w2 2;");
        due("lays() of a block that is not plain", y.lays(0, 3), 3);
        due("square() of a block that is not plain", y.square(0), 3);
    }

    private static void promise8Takes() {
        QuiltPatches x = Due.told(RIMMED);
        due("takes(0) of an open square", x.takes(0), STATE);
        x.lays(0, 7);
        due("takes(0)", x.takes(0), 7);
        due("square(0) taken", x.square(0), NONE);
        due("kind(1, 6) taken", x.kind(1, 6), 109);
        due("takes(0) again", x.takes(0), STATE);
        due("count(9)", x.count(9), 2);
        due("takes(-1)", x.takes(-1), BAD);
        due("takes(6)", x.takes(6), BAD);
    }

    private static void promise9Buys() {
        QuiltPatches x = Due.told(RIMMED);
        due("buys(2, 0): it is that", x.buys(2, 0), STATE);
        due("buys(2, 9)", x.buys(2, 9), 0);
        due("buys(2, 0)", x.buys(2, 0), 9);
        due("buys(0, 10)", x.buys(0, 10), BAD);
        due("buys(0, -1)", x.buys(0, -1), BAD);
        due("buys(3, 1)", x.buys(3, 1), BAD);
        due("buys(-1, 1)", x.buys(-1, 1), BAD);
        due("count(9)", x.count(9), 2);
    }

    private static void promise10Clears() {
        QuiltPatches x = Due.told(RIMMED);
        due("clears() of none", x.clears(), 0);
        x.lays(0, 7);
        x.lays(1, 4);
        due("clears() of two", x.clears(), 2);
        squares("cleared", x, NONE, NONE, NONE, NONE, NONE, NONE);
        due("count(9)", x.count(9), 4);
        due("undo()", x.undo(), 3);
        squares("clears() undone", x, 7, 4, NONE, NONE, NONE, NONE);
    }

    private static void promise11Undo() {
        QuiltPatches x = Due.told(RIMMED);
        due("undo() of nothing", x.undo(), STATE);
        x.lays(0, 7);
        x.takes(0);
        x.buys(0, 5);
        x.clears();
        x.lays(9, 9);
        x.buys(0, 5);
        x.takes(0);
        x.keep(0);
        due("undo() of clears()", x.undo(), 3);
        due("undo() of buys()", x.undo(), 2);
        due("the stock", x.kind(0, 5), 2);
        due("undo() of takes()", x.undo(), 1);
        due("the square", x.square(0), 7);
        due("undo() of lays()", x.undo(), 0);
        due("the square", x.square(0), NONE);
        due("undo() of no more", x.undo(), STATE);
        for (int i = 0; i < 13; i++) {
            x.buys(0, i % 2 == 0 ? 9 : i / 2);
        }
        due("count(9) of thirteen", x.count(9), 10);
        for (int i = 9; i >= 0; i--) {
            due("undo() of ten", x.undo(), i);
        }
        due("undo() of the eleventh", x.undo(), STATE);
        due("what the third left", x.kind(0, 5), 9);
    }

    private static void promise12Square() {
        QuiltPatches x = Due.told(RIMMED);
        squares("told", x, NONE, NONE, NONE, NONE, NONE, NONE);
        x.lays(3, 6);
        squares("laid", x, NONE, NONE, NONE, 6, NONE, NONE);
        due("square(-1)", x.square(-1), BAD);
        squares("one by one", Due.told("w1 1;"), NONE);
    }

    private static void promise13Fits() {
        QuiltPatches x = Due.told(RIMMED);
        due("fits(0, 7)", x.fits(0, 7), 0);
        due("fits(0, 8)", x.fits(0, 8), 1);
        due("fits(0, 4)", x.fits(0, 4), 3);
        x.lays(0, 7);
        due("fits(0, 7) where one is", x.fits(0, 7), STATE);
        due("fits(1, 7)", x.fits(1, 7), 2);
        due("fits(1, 4)", x.fits(1, 4), 0);
        x.lays(1, 4);
        due("fits(3, 6)", x.fits(3, 6), 4);
        due("fits(0, 12)", x.fits(0, 12), BAD);
        due("fits(6, 0)", x.fits(6, 0), BAD);
        due("fits(-1, 0)", x.fits(-1, 0), BAD);
        due("fits(0, -1)", x.fits(0, -1), BAD);
        // Kind 0 turned twice has 2 3 0 1: each hand of the square in the middle is looked at.
        QuiltPatches y = Due.told("k9 9 9 9 0 9;k9 9 9 8 1 9;w3 2;");
        y.lays(1, 0);
        due("below: top 8", y.fits(4, 5), 2);
        due("below: right 8", y.fits(4, 6), 0);
        due("to the right: left 8", y.fits(2, 4), 2);
        due("to the right: top 8", y.fits(2, 5), 0);
        due("to the left: right 8", y.fits(0, 6), 2);
        due("to the left: bottom 8", y.fits(0, 7), 0);
        y.clears();
        y.lays(4, 0);
        due("above: bottom 8", y.fits(1, 7), 2);
        due("above: left 8", y.fits(1, 4), 0);
        due("the next row's first is not beside the first row's last", y.fits(2, 6), 0);
    }

    private static void promise14Left() {
        QuiltPatches x = Due.told(ONE_QUILT);
        due("left(0, -1)", x.left(0, -1), 1);
        due("left(0, 0)", x.left(0, 0), 0);
        due("left(1, -1)", x.left(1, -1), 1);
        due("left(1, 0)", x.left(1, 0), 8);
        due("left(2, 0)", x.left(2, 0), 2);
        due("left(2, 1)", x.left(2, 1), NONE);
        x.buys(2, 0);
        due("left(0, -1) without the middle", x.left(0, -1), 0);
        due("left(2, 0) without the middle", x.left(2, 0), NONE);
        x.buys(2, 1);
        x.buys(0, 1);
        due("left(1, -1): stocks are not shared out", x.left(1, -1), 1);
        x.lays(0, 0);
        due("left(0, -1) of a laid one", x.left(0, -1), STATE);
        due("left(0, -2): BAD is ahead of STATE", x.left(0, -2), BAD);
        due("left(2, -1): none left", x.left(2, -1), 0);
        due("left(-1, 0)", x.left(-1, 0), BAD);
        due("left(3, 0)", x.left(3, 0), BAD);
        QuiltPatches y = Due.told(TEN_QUILTS);
        due("left(0, -1) of all", y.left(0, -1), 4);
        for (int i = 0; i < 4; i++) {
            due("left(1, " + i + ")", y.left(1, i), i);
        }
        due("left(1, 4)", y.left(1, 4), NONE);
        y.lays(0, 2);
        due("left(1, -1) beside one laid", y.left(1, -1), 1);
        due("left(1, 0) beside one laid", y.left(1, 0), 0);
        due("left() of turns that look the same", Due.told("k1 1 1 1 0 9;").left(0, -1), 1);
    }

    private static void promise15Hue() {
        QuiltPatches x = Due.told("k0 0 0 0 4 9;k0 0 0 0 1 9;k0 0 0 0 4 9;k0 0 0 0 0 9;");
        int[][] want = {{4, 2, 2}, {1, 1, 1}, {0, 1, 0}};
        x.lays(0, 0);
        x.lays(1, 8);
        x.lays(3, 4);
        for (int i = 0; i < 3; i++) {
            for (int what = 0; what < 3; what++) {
                due("hue(" + i + ", " + what + ")", x.hue(i, what), want[i][what]);
            }
        }
        due("hue(3, 0)", x.hue(3, 0), NONE);
        due("hue(3, 2)", x.hue(3, 2), NONE);
        due("hue(3, 3): BAD is ahead of NONE", x.hue(3, 3), BAD);
        due("hue(0, -1)", x.hue(0, -1), BAD);
        due("hue(-1, 0)", x.hue(-1, 0), BAD);
    }

    private static void promise16Many() {
        QuiltPatches x = Due.told(TEN_QUILTS);
        due("many(300)", x.many(300), 10);
        due("many(11)", x.many(11), 10);
        due("many(10)", x.many(10), 10);
        due("many(9)", x.many(9), 9);
        due("many(1)", x.many(1), 1);
        due("many(0)", x.many(0), BAD);
        due("many(301)", x.many(301), BAD);
        x.buys(0, 1);
        due("many(300) of too few", x.many(300), 0);
        x.buys(0, 2);
        due("many(300) of just enough", x.many(300), 10);
        x.lays(1, 1);
        due("many(300) with one laid", x.many(300), 3);
        x.lays(0, 0);
        due("many(300) with all laid", x.many(300), 1);
        x.buys(0, 0);
        due("many(300) with all laid, and less stock", x.many(300), 1);
        due("many(300) of hues", Due.told("k0 0 0 0 0 9;k0 0 0 0 1 9;w3 1;m2;").many(300), 6);
        due("many(300) of more", Due.told("k0 0 0 0 0 9;k0 0 0 1 0 9;w3 2;").many(300), 300);
    }

    private static void promise17Quilt() {
        QuiltPatches x = Due.told(TEN_QUILTS);
        int[][] want = {{0, 1}, {0, 2}, {0, 3}, {1, 1}, {1, 2}, {1, 3}, {2, 0}, {3, 1}, {3, 2}, {3, 3}};
        for (int k = 0; k < want.length; k++) {
            due("quilt(" + k + ", 0)", x.quilt(k, 0), want[k][0]);
            due("quilt(" + k + ", 1)", x.quilt(k, 1), want[k][1]);
        }
        due("quilt(10, 0)", x.quilt(10, 0), NONE);
        due("quilt(299, 0)", x.quilt(299, 0), NONE);
        due("quilt(300, 0)", x.quilt(300, 0), BAD);
        due("quilt(-1, 0)", x.quilt(-1, 0), BAD);
        due("quilt(0, 2)", x.quilt(0, 2), BAD);
        due("quilt(0, -1)", x.quilt(0, -1), BAD);
        x.lays(1, 1);
        due("quilt(2, 0) with one laid", x.quilt(2, 0), 3);
        due("quilt(2, 1): what it has", x.quilt(2, 1), 1);
        due("quilt(3, 1): not so many", x.quilt(3, 1), NONE);
        x.lays(0, 0);
        due("quilt(0, 0): none is open", x.quilt(0, 0), 0);
        due("quilt(1, 0): none is open", x.quilt(1, 0), NONE);
        due("square(0): nothing is changed", x.square(0), 0);
    }

    private static void promise18Sure() {
        QuiltPatches x = Due.told(ONE_QUILT);
        due("sure() of one quilt", x.sure(), 7);
        x.lays(1, 8);
        due("sure() of the open ones", x.sure(), 5);
        x.lays(0, 0);
        x.lays(2, 2);
        due("sure() of none open", x.sure(), 0);
        x.clears();
        x.buys(0, 1);
        due("sure() without a quilt", x.sure(), 0);
        due("sure() of ten quilts", Due.told(TEN_QUILTS).sure(), 0);
        // The middle is the same in all, the ends are not: two kinds look alike there.
        QuiltPatches y = Due.told("k0 1 0 0 0 2;k0 1 0 0 1 2;k0 1 0 1 2 1;w3 1;e0;");
        due("sure() of the middle", y.sure(), 2);
        due("many() of the middle", y.many(300), 4);
        due("count(7): nothing is changed", y.count(7), 3);
    }

    private static void promise19Next() {
        QuiltPatches x = Due.told(TEN_QUILTS);
        due("next() of several", x.next(), 0);
        x.lays(0, 2);
        due("next() of one", x.next(), 1);
        x.lays(1, 0);
        due("next() of none", x.next(), NONE);
        // Two kinds for the ends, one for the middle.
        QuiltPatches y = Due.told("k0 1 0 0 0 2;k0 1 0 0 1 2;k0 1 0 1 2 1;w3 1;e0;");
        due("next() of the fewest", y.next(), 1);
        y.lays(1, 8);
        due("next() of the lowest", y.next(), 0);
    }

    private static void promise20Wanting() {
        QuiltPatches x = Due.told(ONE_QUILT);
        due("wanting(0)", x.wanting(0), 2);
        due("wanting(1)", x.wanting(1), 0);
        due("wanting(2)", x.wanting(2), 1);
        x.lays(0, 0);
        due("wanting(0): what is laid counts", x.wanting(0), 2);
        x.buys(0, 0);
        due("wanting(0): less stock than laid", x.wanting(0), 2);
        due("wanting(2): another kind is wanting", x.wanting(2), NONE);
        due("kind(0, 5): nothing is changed", x.kind(0, 5), 0);
        x.buys(0, 2);
        x.lays(2, 2);
        x.buys(0, 0);
        due("wanting(0): no more is needed", x.wanting(0), 0);
        x.lays(1, 8);
        due("wanting(2): none is open", x.wanting(2), 0);
        due("wanting(-1)", x.wanting(-1), BAD);
        due("wanting(3)", x.wanting(3), BAD);
        due("wanting(0) of six", Due.told("k0 0 0 0 0 0;w3 2;").wanting(0), 6);
        due("wanting(0) against the hue", Due.told("k0 0 0 0 0 9;w3 2;m5;").wanting(0), NONE);
    }

    private static void promise21Piece() {
        QuiltPatches x = Due.told("s3 2;w3 1;");
        int[][] want = {{3, 3}, {2, 13}, {2, 7}};
        for (int p = 0; p < 3; p++) {
            due("piece(" + p + ", 0)", x.piece(p, 0), want[p][0]);
            due("piece(" + p + ", 1)", x.piece(p, 1), want[p][1]);
        }
        due("piece(-1, 0)", x.piece(-1, 0), BAD);
        due("piece(3, 0)", x.piece(3, 0), BAD);
        due("piece(0, 2)", x.piece(0, 2), BAD);
        due("piece(0, -1)", x.piece(0, -1), BAD);
        due("piece(2, 1) of a small side", Due.told("s1 4;w1 1;").piece(2, 1), 9);
        due("piece(2, 0) of a small side", Due.told("s1 4;w1 1;").piece(2, 0), 4);
    }

    private static void promise22Good() {
        QuiltPatches x = new QuiltPatches();
        due("good(8, 8)", x.good(8, 8), 64);
        due("good(3, 3)", x.good(3, 3), 0);
        due("good(5, 4)", x.good(5, 4), 16);
        due("good(10, 10)", x.good(10, 10), 100);
        due("good(1, 24)", x.good(1, 24), 20);
        due("good(24, 24)", x.good(24, 24), 576);
        due("good(0, 1)", x.good(0, 1), BAD);
        due("good(1, 0)", x.good(1, 0), BAD);
        due("good(25, 24)", x.good(25, 24), BAD);
        due("good(24, 25)", x.good(24, 25), BAD);
        Due.type(x, "s3 2;w3 1;");
        x.tells();
        due("good(8, 8) told anew: four strips", x.good(8, 8), 56);
        due("good(13, 2): a strip", x.good(13, 2), 26);
        due("good(2, 7): a strip", x.good(2, 7), 14);
        due("good(24, 1)", x.good(24, 1), 0);
    }

    private static void promise23Cut() {
        QuiltPatches x = new QuiltPatches();
        due("cut(3, 3)", x.cut(3, 3), 0);
        due("cut(4, 4)", x.cut(4, 4), 1);
        due("cut(10, 1)", x.cut(10, 1), 2);
        due("cut(1, 10)", x.cut(1, 10), 2);
        due("cut(8, 8)", x.cut(8, 8), 104);
        due("cut(10, 10)", x.cut(10, 10), 101);
        due("cut(5, 4)", x.cut(5, 4), 101);
        due("cut(4, 5)", x.cut(4, 5), 201);
        due("cut(24, 24)", x.cut(24, 24), 104);
        due("cut(4, 8)", x.cut(4, 8), 204);
        due("cut(0, 4)", x.cut(0, 4), BAD);
        due("cut(4, 0)", x.cut(4, 0), BAD);
        due("cut(25, 4)", x.cut(25, 4), BAD);
        due("cut(4, 25)", x.cut(4, 25), BAD);
        QuiltPatches y = Due.told("s3 2;w3 1;");
        due("cut(7, 2): the strip for a side", y.cut(7, 2), 3);
        due("cut(13, 2): the strip for the top", y.cut(13, 2), 2);
    }

    private static void promise24Made() {
        QuiltPatches x = new QuiltPatches();
        due("made(8, 8, 0)", x.made(8, 8, 0), 4);
        due("made(8, 8, 1)", x.made(8, 8, 1), 0);
        due("made(10, 10, 1)", x.made(10, 10, 1), 10);
        due("made(10, 10, 2): the lower piece is it", x.made(10, 10, 2), 0);
        due("made(4, 20, 0)", x.made(4, 20, 0), 0);
        due("made(4, 20, 1)", x.made(4, 20, 1), 8);
        due("made(3, 3, 0)", x.made(3, 3, 0), 0);
        due("made(4, 4, 0)", x.made(4, 4, 0), 1);
        due("made(4, 4, 3)", x.made(4, 4, 3), BAD);
        due("made(4, 4, -1)", x.made(4, 4, -1), BAD);
        due("made(0, 4, 0)", x.made(0, 4, 0), BAD);
        due("made(4, 25, 0)", x.made(4, 25, 0), BAD);
        QuiltPatches y = Due.told("s3 2;w3 1;");
        due("made(7, 2, 2)", y.made(7, 2, 2), 1);
        due("made(20, 2, 1)", y.made(20, 2, 1), 1);
        due("made(20, 2, 2)", y.made(20, 2, 2), 1);
        due("made(24, 24, 0) of the smallest", Due.told("s1 4;").made(24, 24, 0), 576);
    }

    private static void promise25Keep() {
        QuiltPatches x = Due.told(RIMMED);
        due("keep(0)", x.keep(0), 6);
        x.lays(0, 7);
        due("keep(1)", x.keep(1), 5);
        due("keep(2)", x.keep(2), BAD);
        due("keep(-1)", x.keep(-1), BAD);
        due("count(9): keep() is not undone", x.count(9), 1);
        due("undo()", x.undo(), 0);
        due("back(1): undo() leaves it", x.back(1), 5);
        x.clears();
        due("keep(1) again", x.keep(1), 6);
        x.lays(0, 7);
        due("back(1) of the later one", x.back(1), 6);
    }

    private static void promise26Back() {
        QuiltPatches x = Due.told(RIMMED);
        x.lays(0, 7);
        x.buys(0, 7);
        due("back(0): none was kept", x.back(0), STATE);
        due("count(9): refused", x.count(9), 2);
        x.keep(0);
        x.clears();
        x.buys(0, 1);
        Due.type(x, "e");
        due("back(1): none was kept", x.back(1), STATE);
        due("back(0)", x.back(0), 5);
        squares("back", x, 7, NONE, NONE, NONE, NONE, NONE);
        due("the stock", x.kind(0, 5), 7);
        due("the text stays", x.count(8), 1);
        due("undo() behind back()", x.undo(), STATE);
        x.takes(0);
        due("back(0) again", x.back(0), 5);
        due("back(2)", x.back(2), BAD);
        due("back(-1)", x.back(-1), BAD);
    }

    private static void promise27Count() {
        QuiltPatches x = Due.told(RIMMED);
        x.lays(0, 7);
        x.lays(1, 4);
        Due.type(x, "abc");
        counts("laid", x, 3, 3, 2, 0, 2, 2, 2, 4, 3, 2, 2);
        due("count(11)", x.count(11), BAD);
        due("count(-1)", x.count(-1), BAD);
    }
}
