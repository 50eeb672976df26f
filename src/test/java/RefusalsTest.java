/**
 * Every refused call: the first of its reasons where several hold, and that nothing has changed behind it; and that
 * questions change nothing either. What an object is behind a call is compared with a twin that was not asked.
 */
public final class RefusalsTest {
    private static final int BAD = QuiltPatches.BAD;
    private static final int STATE = QuiltPatches.STATE;
    private static final int FULL = QuiltPatches.FULL;
    private static final int NONE = QuiltPatches.NONE;
    private static final Due DUE = new Due();

    private interface Making {
        QuiltPatches object();
    }

    private interface Call {
        int of(QuiltPatches x);
    }

    public static void main(String[] args) {
        twinsDiffer();
        typeRefused();
        tellsRefused();
        laysRefused();
        laysRefusedByWhy();
        takesRefused();
        buysRefused();
        undoRefused();
        squaresRefused();
        quiltsRefused();
        clothRefused();
        imagesRefused();
        nothingIsThere();
        questionsChangeNothing();
        DUE.end("RefusalsTest");
    }

    /** Something of everything: two squares laid, stock bought, one image, five to undo, a text begun. */
    private static QuiltPatches busy() {
        QuiltPatches x = Due.told("k0 1 2 3 2 2;k0 0 1 1 5 9;k4 4 4 4 2 0;w3 2;e0;m2;s2 2;");
        x.lays(0, 7);
        x.keep(0);
        x.buys(0, 7);
        x.lays(3, 6);
        x.takes(3);
        x.lays(1, 4);
        Due.type(x, "m7;e1");
        return x;
    }

    private static QuiltPatches busyWithoutStock() {
        QuiltPatches x = busy();
        x.buys(1, 2);
        return x;
    }

    /** Every square has a block, more than can be undone was done, and a text that is full. */
    private static QuiltPatches full() {
        QuiltPatches x = Due.told("k0 0 0 0 0 9;k0 0 0 0 1 1;w3 2;m5;");
        x.keep(1);
        for (int i = 0; i < 8; i++) {
            x.buys(1, i % 2 + 2);
        }
        for (int s = 0; s < 6; s++) {
            x.lays(s, s == 2 ? 7 : s % 4);
        }
        Due.type(x, "k1 2 3 4 5 6;" + " ".repeat(107));
        return x;
    }

    private static QuiltPatches bare() {
        return new QuiltPatches();
    }

    private static void same(String call, Making making, Call asked, int want) {
        QuiltPatches x = making.object();
        DUE.is(call, asked.of(x), want);
        DUE.same(call + " changes nothing", Seen.all(x), Seen.all(making.object()));
    }

    private static void atBusy(String call, Call asked, int want) {
        same("busy: " + call, RefusalsTest::busy, asked, want);
    }

    private static void atFull(String call, Call asked, int want) {
        same("full: " + call, RefusalsTest::full, asked, want);
    }

    private static void atBare(String call, Call asked, int want) {
        same("bare: " + call, RefusalsTest::bare, asked, want);
    }

    /** The twins would tell each change apart. */
    private static void twinsDiffer() {
        String before = Seen.all(busy());
        Call[] changes = {x -> x.type(32), x -> x.clear(), x -> x.takes(1) + x.lays(1, 4), x -> x.takes(0),
            x -> x.buys(2, 1), x -> x.clears(), x -> x.undo(), x -> x.keep(0), x -> x.keep(1), x -> x.back(0)};
        for (int i = 0; i < changes.length; i++) {
            QuiltPatches x = busy();
            changes[i].of(x);
            DUE.holds("change " + i + " is seen", !Seen.all(x).equals(before));
        }
        QuiltPatches x = busy();
        x.type(';');
        DUE.is("the text of busy() tells", x.tells(), 2);
        DUE.is("full() has no open square", full().count(7), 0);
        DUE.is("full() has ten to undo", full().count(9), 10);
        DUE.is("full() has a full text", full().count(8), 120);
        DUE.is("busy() has open squares", busy().count(7), 4);
        DUE.is("busy() has something to undo", busy().count(9), 5);
    }

    private static void typeRefused() {
        for (int letter : new int[] {-1, 256, Integer.MIN_VALUE, Integer.MAX_VALUE}) {
            atBusy("type(" + letter + ")", x -> x.type(letter), BAD);
            atBare("type(" + letter + ")", x -> x.type(letter), BAD);
            atFull("type(" + letter + "): BAD is ahead of FULL", x -> x.type(letter), BAD);
        }
        atFull("type(0)", x -> x.type(0), FULL);
        atFull("type(32)", x -> x.type(32), FULL);
        atFull("type(255)", x -> x.type(255), FULL);
    }

    private static void tellsRefused() {
        atBusy("tells() of a text that ends too early", x -> x.tells(), -10 - 5);
        String[] faulty = {"k1 1 1 1 6 1;", "k1 1 1 1 5 1;w4 1;", "w1 1;w1 1;", "e10;", "m0;", "s3 2;s3 2;", "e01;", "e100;",
            "K", ";", "e1;;", "k1 2 3 4 5 6;".repeat(6) + "k", "k9 9 9 9 5 9"};
        int[] places = {9, 14, 5, 1, 1, 5, 1, 1, 0, 0, 3, 78, 12};
        for (int i = 0; i < faulty.length; i++) {
            String text = faulty[i];
            int place = places[i];
            same("tells() of '" + text + "'", () -> busyWithText(text), x -> x.tells(), -10 - place);
            same("bare: tells() of '" + text + "'", () -> bareWithText(text), x -> x.tells(), -10 - place);
        }
    }

    private static QuiltPatches busyWithText(String text) {
        QuiltPatches x = busy();
        x.clear();
        Due.type(x, text);
        return x;
    }

    private static QuiltPatches bareWithText(String text) {
        QuiltPatches x = bare();
        Due.type(x, text);
        return x;
    }

    private static void laysRefused() {
        atBusy("lays(-1, 7)", x -> x.lays(-1, 7), BAD);
        atBusy("lays(6, 7)", x -> x.lays(6, 7), BAD);
        atBusy("lays(2, -1)", x -> x.lays(2, -1), BAD);
        atBusy("lays(2, 12)", x -> x.lays(2, 12), BAD);
        atBusy("lays(0, 12): BAD is ahead of STATE", x -> x.lays(0, 12), BAD);
        atBusy("lays(0, -1): BAD is ahead of STATE", x -> x.lays(0, -1), BAD);
        atBusy("lays(0, 7): where it is already", x -> x.lays(0, 7), STATE);
        atBusy("lays(0, 8): STATE is ahead of WHY 1", x -> x.lays(0, 8), STATE);
        atBusy("lays(1, 5): STATE is ahead of WHY 2", x -> x.lays(1, 5), STATE);
        atFull("lays(0, 0)", x -> x.lays(0, 0), STATE);
        atFull("lays(5, 7)", x -> x.lays(5, 7), STATE);
        atFull("lays(6, 0)", x -> x.lays(6, 0), BAD);
        atFull("lays(0, 8)", x -> x.lays(0, 8), BAD);
    }

    private static void laysRefusedByWhy() {
        atBusy("lays(4, 8)", x -> x.lays(4, 8), -11);
        atBusy("lays(2, 8): 1 is ahead of 2 and 3", x -> x.lays(2, 8), -11);
        atBusy("lays(3, 4): 2 is ahead of 3 and 4", x -> x.lays(3, 4), -12);
        atBusy("lays(2, 7): 3 is ahead of 4", x -> x.lays(2, 7), -13);
        atBusy("lays(3, 6)", x -> x.lays(3, 6), -14);
        Making making = RefusalsTest::busyWithoutStock;
        same("lays(3, 6): 1 is ahead of 4", making, x -> x.lays(3, 6), -11);
        same("lays(3, 4): 1 is ahead of all", making, x -> x.lays(3, 4), -11);
        same("fits(3, 4): 1 is ahead of all", making, x -> x.fits(3, 4), 1);
        atBusy("fits(4, 8)", x -> x.fits(4, 8), 1);
        atBusy("fits(3, 4)", x -> x.fits(3, 4), 2);
        atBusy("fits(2, 7)", x -> x.fits(2, 7), 3);
        atBusy("fits(3, 6)", x -> x.fits(3, 6), 4);
    }

    private static void takesRefused() {
        atBusy("takes(-1)", x -> x.takes(-1), BAD);
        atBusy("takes(6)", x -> x.takes(6), BAD);
        atBusy("takes(2)", x -> x.takes(2), STATE);
        atBusy("takes(5)", x -> x.takes(5), STATE);
        atFull("takes(6)", x -> x.takes(6), BAD);
        atBare("takes(0)", x -> x.takes(0), STATE);
        atBare("takes(3)", x -> x.takes(3), STATE);
        atBare("takes(4)", x -> x.takes(4), BAD);
    }

    private static void buysRefused() {
        atBusy("buys(-1, 1)", x -> x.buys(-1, 1), BAD);
        atBusy("buys(3, 1)", x -> x.buys(3, 1), BAD);
        atBusy("buys(0, -1)", x -> x.buys(0, -1), BAD);
        atBusy("buys(0, 10)", x -> x.buys(0, 10), BAD);
        atBusy("buys(0, 7): it is that", x -> x.buys(0, 7), STATE);
        atBusy("buys(1, 9): it is that", x -> x.buys(1, 9), STATE);
        atBusy("buys(2, 0): it is that", x -> x.buys(2, 0), STATE);
        atFull("buys(1, 3): it is that", x -> x.buys(1, 3), STATE);
        atFull("buys(2, 0)", x -> x.buys(2, 0), BAD);
        atBare("buys(0, 0)", x -> x.buys(0, 0), BAD);
    }

    private static void undoRefused() {
        atBare("undo()", x -> x.undo(), STATE);
        same("undo() of what was told alone", () -> Due.told("k1 2 3 4 5 6;"), x -> x.undo(), STATE);
        same("undo() behind back()", RefusalsTest::wentBack, x -> x.undo(), STATE);
    }

    private static QuiltPatches wentBack() {
        QuiltPatches x = busy();
        x.back(0);
        return x;
    }

    private static void squaresRefused() {
        atBusy("square(-1)", x -> x.square(-1), BAD);
        atBusy("square(6)", x -> x.square(6), BAD);
        atBusy("fits(-1, 0)", x -> x.fits(-1, 0), BAD);
        atBusy("fits(6, 0)", x -> x.fits(6, 0), BAD);
        atBusy("fits(2, -1)", x -> x.fits(2, -1), BAD);
        atBusy("fits(2, 12)", x -> x.fits(2, 12), BAD);
        atBusy("fits(0, 12): BAD is ahead of STATE", x -> x.fits(0, 12), BAD);
        atBusy("fits(0, -1): BAD is ahead of STATE", x -> x.fits(0, -1), BAD);
        atBusy("fits(0, 7)", x -> x.fits(0, 7), STATE);
        atBusy("fits(0, 8): STATE is ahead of WHY", x -> x.fits(0, 8), STATE);
        atBusy("left(-1, 0)", x -> x.left(-1, 0), BAD);
        atBusy("left(6, 0)", x -> x.left(6, 0), BAD);
        atBusy("left(2, -2)", x -> x.left(2, -2), BAD);
        atBusy("left(0, -2): BAD is ahead of STATE", x -> x.left(0, -2), BAD);
        atBusy("left(0, -1)", x -> x.left(0, -1), STATE);
        atBusy("left(0, 0)", x -> x.left(0, 0), STATE);
        atBusy("left(0, 24): STATE is ahead of NONE", x -> x.left(0, 24), STATE);
        atFull("left(5, -1)", x -> x.left(5, -1), STATE);
        atFull("left(5, -2)", x -> x.left(5, -2), BAD);
        atFull("fits(2, 7): what it has", x -> x.fits(2, 7), STATE);
        atBusy("hue(-1, 0)", x -> x.hue(-1, 0), BAD);
        atBusy("hue(0, -1)", x -> x.hue(0, -1), BAD);
        atBusy("hue(0, 3)", x -> x.hue(0, 3), BAD);
        atBusy("hue(2, 3): BAD is ahead of NONE", x -> x.hue(2, 3), BAD);
        atBusy("hue(2, -1): BAD is ahead of NONE", x -> x.hue(2, -1), BAD);
        atBusy("hue(2, 0)", x -> x.hue(2, 0), NONE);
        atBusy("kind(3, 0)", x -> x.kind(3, 0), BAD);
        atBusy("kind(0, 7)", x -> x.kind(0, 7), BAD);
        atBusy("block(12, 0)", x -> x.block(12, 0), BAD);
        atBusy("block(0, 5)", x -> x.block(0, 5), BAD);
    }

    private static void quiltsRefused() {
        atBusy("many(0)", x -> x.many(0), BAD);
        atBusy("many(301)", x -> x.many(301), BAD);
        atBusy("quilt(-1, 0)", x -> x.quilt(-1, 0), BAD);
        atBusy("quilt(300, 0)", x -> x.quilt(300, 0), BAD);
        atBusy("quilt(0, -1)", x -> x.quilt(0, -1), BAD);
        atBusy("quilt(0, 6)", x -> x.quilt(0, 6), BAD);
        atBusy("quilt(299, 6): BAD is ahead of NONE", x -> x.quilt(299, 6), BAD);
        atBusy("wanting(-1)", x -> x.wanting(-1), BAD);
        atBusy("wanting(3)", x -> x.wanting(3), BAD);
        atFull("quilt(0, 6)", x -> x.quilt(0, 6), BAD);
        atFull("quilt(1, 5)", x -> x.quilt(1, 5), NONE);
    }

    private static void clothRefused() {
        atBusy("piece(-1, 0)", x -> x.piece(-1, 0), BAD);
        atBusy("piece(3, 0)", x -> x.piece(3, 0), BAD);
        atBusy("piece(0, 2)", x -> x.piece(0, 2), BAD);
        atBusy("good(0, 1)", x -> x.good(0, 1), BAD);
        atBusy("good(1, 25)", x -> x.good(1, 25), BAD);
        atBusy("cut(25, 1)", x -> x.cut(25, 1), BAD);
        atBusy("cut(1, 0)", x -> x.cut(1, 0), BAD);
        atBusy("made(25, 1, 0)", x -> x.made(25, 1, 0), BAD);
        atBusy("made(1, 0, 0)", x -> x.made(1, 0, 0), BAD);
        atBusy("made(1, 1, 3)", x -> x.made(1, 1, 3), BAD);
        atBusy("made(1, 1, -1)", x -> x.made(1, 1, -1), BAD);
    }

    private static void imagesRefused() {
        for (int image : new int[] {-1, 2, Integer.MIN_VALUE, Integer.MAX_VALUE}) {
            atBusy("keep(" + image + ")", x -> x.keep(image), BAD);
            atBusy("back(" + image + ")", x -> x.back(image), BAD);
        }
        atBusy("back(1): none was kept", x -> x.back(1), STATE);
        atFull("back(0): none was kept", x -> x.back(0), STATE);
        atBare("back(0): none was kept", x -> x.back(0), STATE);
        atBare("back(1): none was kept", x -> x.back(1), STATE);
        atBusy("count(-1)", x -> x.count(-1), BAD);
        atBusy("count(11)", x -> x.count(11), BAD);
    }

    /** With no kinds there is no such kind, block or stock; squares there are. */
    private static void nothingIsThere() {
        atBare("kind(0, 0)", x -> x.kind(0, 0), BAD);
        atBare("kind(0, 6)", x -> x.kind(0, 6), BAD);
        atBare("block(0, 4)", x -> x.block(0, 4), BAD);
        atBare("lays(0, 0)", x -> x.lays(0, 0), BAD);
        atBare("fits(0, 0)", x -> x.fits(0, 0), BAD);
        atBare("buys(0, 1)", x -> x.buys(0, 1), BAD);
        atBare("wanting(0)", x -> x.wanting(0), BAD);
        atBare("hue(0, 0)", x -> x.hue(0, 0), NONE);
        atBare("hue(0, 1)", x -> x.hue(0, 1), NONE);
        atBare("hue(0, 2)", x -> x.hue(0, 2), NONE);
        atBare("square(0)", x -> x.square(0), NONE);
        atBare("left(0, -1)", x -> x.left(0, -1), 0);
        atBare("left(0, 0)", x -> x.left(0, 0), NONE);
        atBare("many(300)", x -> x.many(300), 0);
        atBare("quilt(0, 0)", x -> x.quilt(0, 0), NONE);
        atBare("sure()", x -> x.sure(), 0);
        atBare("next()", x -> x.next(), 0);
    }

    private static void questionsChangeNothing() {
        atBusy("kind(1, 6)", x -> x.kind(1, 6), 107);
        atBusy("block(7, 1)", x -> x.block(7, 1), 1);
        atBusy("square(0)", x -> x.square(0), 7);
        atBusy("hue(1, 2)", x -> x.hue(1, 2), 2);
        atBusy("left(2, -1)", x -> x.left(2, -1), 0);
        atBusy("next()", x -> x.next(), 2);
        atBusy("many(300)", x -> x.many(300), 0);
        atBusy("sure()", x -> x.sure(), 0);
        atBusy("wanting(0)", x -> x.wanting(0), NONE);
        atBusy("quilt(0, 0)", x -> x.quilt(0, 0), NONE);
        atBusy("piece(1, 1)", x -> x.piece(1, 1), 10);
        atBusy("good(24, 24)", x -> x.good(24, 24), 576);
        atBusy("count(3)", x -> x.count(3), 0);
        atFull("many(300)", x -> x.many(300), 1);
        atFull("quilt(0, 2)", x -> x.quilt(0, 2), 7);
        atFull("sure()", x -> x.sure(), 0);
        atFull("next()", x -> x.next(), NONE);
        atFull("wanting(1)", x -> x.wanting(1), 0);
        Making open = () -> Due.told("k0 1 0 0 0 2;k0 2 0 1 1 9;k0 1 0 1 2 1;w3 1;e0;");
        same("many(300) of one quilt", open, x -> x.many(300), 1);
        same("quilt(0, 1) of one quilt", open, x -> x.quilt(0, 1), 8);
        same("sure() of one quilt", open, x -> x.sure(), 7);
        same("wanting(2) of one quilt", open, x -> x.wanting(2), 1);
        same("next() of one quilt", open, x -> x.next(), 0);
        same("left(1, 0) of one quilt", open, x -> x.left(1, 0), 8);
        same("fits(0, 0) of one quilt", open, x -> x.fits(0, 0), 0);
    }
}
