/** The document's sentences on CLOTH: a method for each boundary named. */
public final class BoundsOfClothTest {
    private static final int BAD = QuiltPatches.BAD;
    private static final Due DUE = new Due();

    public static void main(String[] args) {
        piecesAtFirst();
        leastAndGreatestPieces();
        piecesOfEachSize();
        leastRectangle();
        greatestRectangle();
        rectanglesBeyond();
        eitherWayAbout();
        justTooSmall();
        pieceIsNotCut();
        lowestPiece();
        stripsLongerThanTheCloth();
        noGoodNoCut();
        acrossFirst();
        firstAndLastCut();
        firstOfCutsAsGood();
        asManyAsCanBeCut();
        madeByCutAlone();
        clothOfWhatIsTold();
        clothWithoutKinds();
        DUE.end("BoundsOfClothTest");
    }

    private static void due(String call, int got, int want) {
        DUE.is(call, got, want);
    }

    private static void piecesAre(String text, int... sides) {
        QuiltPatches x = Due.told(text);
        for (int piece = 0; piece < 3; piece++) {
            due("'" + text + "' piece(" + piece + ", 0)", x.piece(piece, 0), sides[2 * piece]);
            due("'" + text + "' piece(" + piece + ", 1)", x.piece(piece, 1), sides[2 * piece + 1]);
        }
    }

    private static void made(QuiltPatches x, int a, int b, int... pieces) {
        for (int piece = 0; piece < pieces.length; piece++) {
            due("made(" + a + ", " + b + ", " + piece + ")", x.made(a, b, piece), pieces[piece]);
        }
    }

    /** SIDE 4, BORDER 1, WIDTH 2, HEIGHT 2 at first. */
    private static void piecesAtFirst() {
        piecesAre("", 4, 4, 1, 10, 1, 10);
        QuiltPatches x = new QuiltPatches();
        due("piece(3, 0)", x.piece(3, 0), BAD);
        due("piece(-1, 1)", x.piece(-1, 1), BAD);
        due("piece(0, 2)", x.piece(0, 2), BAD);
        due("piece(2, -1)", x.piece(2, -1), BAD);
    }

    /** SIDE (1 .. 9), BORDER (1 .. 4), WIDTH (1 .. 3), HEIGHT (1 .. 2): its lesser, its greater side. */
    private static void leastAndGreatestPieces() {
        piecesAre("s1 1;w1 1;", 1, 1, 1, 3, 1, 3);
        piecesAre("s9 4;w3 2;", 9, 9, 4, 35, 4, 26);
        piecesAre("s1 4;w1 1;", 1, 1, 4, 9, 4, 9);
        piecesAre("s9 1;w3 1;", 9, 9, 1, 29, 1, 11);
        piecesAre("s1 4;w1 2;", 1, 1, 4, 9, 4, 10);
    }

    /** BORDER by WIDTH times SIDE and 2 BORDERS; BORDER by HEIGHT times SIDE and 2 BORDERS. */
    private static void piecesOfEachSize() {
        for (int w = 1; w <= 3; w++) {
            for (int h = 1; h <= 2; h++) {
                for (int side = 1; side <= 9; side++) {
                    for (int border = 1; border <= 4; border++) {
                        piecesAre("s" + side + " " + border + ";w" + w + " " + h + ";", side, side,
                            border, w * side + 2 * border, border, h * side + 2 * border);
                    }
                }
            }
        }
    }

    /** A rectangle a by b (1 .. 24 each): 1 by 1. */
    private static void leastRectangle() {
        QuiltPatches x = Due.told("s1 1;");
        due("good(1, 1)", x.good(1, 1), 1);
        due("cut(1, 1)", x.cut(1, 1), 1);
        made(x, 1, 1, 1, 0, 0);
        QuiltPatches y = Due.told("s2 1;");
        due("good(1, 1) of none", y.good(1, 1), 0);
        due("cut(1, 1) of none", y.cut(1, 1), 0);
        made(y, 1, 1, 0, 0, 0);
    }

    /** A rectangle a by b (1 .. 24 each): 24 by 24. */
    private static void greatestRectangle() {
        QuiltPatches x = Due.told("s1 1;w1 1;");
        due("good(24, 24)", x.good(24, 24), 576);
        QuiltPatches y = Due.told("s9 4;w3 2;");
        due("good(24, 24) of four blocks", y.good(24, 24), 324);
        due("cut(24, 24) of four blocks", y.cut(24, 24), 101);
        made(y, 24, 24, 4, 0, 0);
        due("good(18, 18)", y.good(18, 18), 324);
        due("good(17, 18)", y.good(17, 18), 162);
        due("good(24, 17)", y.good(24, 17), 162);
    }

    /** BAD beyond either side of either number. */
    private static void rectanglesBeyond() {
        QuiltPatches x = new QuiltPatches();
        int[][] beyond = {{0, 4}, {4, 0}, {25, 4}, {4, 25}, {0, 0}, {25, 25}, {-4, 4}, {4, -4}, {-4, -4},
            {Integer.MAX_VALUE, 4}, {4, Integer.MIN_VALUE}};
        for (int[] rectangle : beyond) {
            String sides = "(" + rectangle[0] + ", " + rectangle[1] + ")";
            due("good" + sides, x.good(rectangle[0], rectangle[1]), BAD);
            due("cut" + sides, x.cut(rectangle[0], rectangle[1]), BAD);
            for (int piece = -1; piece <= 3; piece++) {
                due("made" + sides + " of " + piece, x.made(rectangle[0], rectangle[1], piece), BAD);
            }
        }
        due("made(4, 4, -1)", x.made(4, 4, -1), BAD);
        due("made(4, 4, 3)", x.made(4, 4, 3), BAD);
        due("made(24, 24, 2)", x.made(24, 24, 2), 0);
    }

    /** its own area, if it is a PIECE (either way about). */
    private static void eitherWayAbout() {
        QuiltPatches x = Due.told("s3 2;w3 1;");
        int[][] pieces = {{3, 3, 1}, {2, 13, 2}, {13, 2, 2}, {2, 7, 3}, {7, 2, 3}};
        for (int[] piece : pieces) {
            due("good of a piece", x.good(piece[0], piece[1]), piece[0] * piece[1]);
            due("cut of a piece", x.cut(piece[0], piece[1]), piece[2]);
            for (int i = 0; i < 3; i++) {
                due("made of a piece", x.made(piece[0], piece[1], i), i == piece[2] - 1 ? 1 : 0);
            }
        }
    }

    /** One less on either side is no PIECE any more. */
    private static void justTooSmall() {
        QuiltPatches x = Due.told("s5 2;w2 1;");
        int[][] none = {{5, 4}, {4, 5}, {4, 4}, {1, 24}, {24, 1}, {2, 8}, {8, 2}, {1, 14}, {14, 1}};
        for (int[] r : none) {
            due("good(" + r[0] + ", " + r[1] + ")", x.good(r[0], r[1]), 0);
            due("cut(" + r[0] + ", " + r[1] + ")", x.cut(r[0], r[1]), 0);
            made(x, r[0], r[1], 0, 0, 0);
        }
        due("good(2, 9): the strip for a side", x.good(2, 9), 18);
        due("good(2, 13): that strip, and a rest", x.good(2, 13), 18);
        due("good(2, 14): the strip for the top", x.good(2, 14), 28);
        due("good(2, 15)", x.good(2, 15), 28);
        due("cut(2, 13)", x.cut(2, 13), 201);
        due("cut(2, 15)", x.cut(2, 15), 201);
    }

    /** 1 and the PIECE, if it is one; else the first cut: a PIECE is not cut, though cuts would be as good. */
    private static void pieceIsNotCut() {
        QuiltPatches x = Due.told("s1 1;w3 1;");
        due("cut(5, 1)", x.cut(5, 1), 2);
        due("cut(1, 3)", x.cut(1, 3), 3);
        made(x, 5, 1, 0, 1, 0);
        made(x, 1, 3, 0, 0, 1);
        due("cut(4, 1): no piece", x.cut(4, 1), 101);
        made(x, 4, 1, 1, 0, 1);
        due("cut(2, 1)", x.cut(2, 1), 101);
        made(x, 2, 1, 2, 0, 0);
    }

    /** (the lowest that it is). */
    private static void lowestPiece() {
        QuiltPatches same = Due.told("s3 2;w2 2;");
        due("cut(10, 2) where both strips are it", same.cut(10, 2), 2);
        made(same, 2, 10, 0, 1, 0);
        QuiltPatches apart = Due.told("s3 2;w1 2;");
        due("cut(10, 2) where one is", apart.cut(10, 2), 3);
        due("cut(7, 2) where one is", apart.cut(7, 2), 2);
        made(apart, 10, 2, 0, 0, 1);
    }

    /** A PIECE may be longer than any rectangle that can be asked. */
    private static void stripsLongerThanTheCloth() {
        QuiltPatches x = Due.told("s8 1;w3 2;");
        due("piece(1, 1)", x.piece(1, 1), 26);
        due("good(24, 1): the other strip", x.good(24, 1), 18);
        due("good(1, 17)", x.good(1, 17), 0);
        QuiltPatches just = Due.told("s7 1;w3 2;");
        due("good(23, 1): a strip of 23", just.good(23, 1), 23);
        due("good(24, 1): a strip of 23", just.good(24, 1), 23);
        due("cut(24, 1)", just.cut(24, 1), 101);
        QuiltPatches full = Due.told("s6 3;w3 2;");
        due("good(24, 3): a strip of 24", full.good(24, 3), 72);
        due("cut(24, 3): a strip of 24", full.cut(24, 3), 2);
        due("cut(3, 24): a strip of 24", full.cut(3, 24), 2);
        made(full, 24, 3, 0, 1, 0);
    }

    /** CUT of a rectangle: 0, if GOOD is 0. */
    private static void noGoodNoCut() {
        QuiltPatches x = Due.told("s9 4;w3 2;");
        for (int a = 1; a <= 24; a++) {
            due("good(" + a + ", 8)", x.good(a, 8), 0);
            due("cut(8, " + a + ")", x.cut(8, a), 0);
            made(x, a, 8, 0, 0, 0);
        }
        due("good(9, 9)", x.good(9, 9), 81);
        due("cut(9, 9)", x.cut(9, 9), 1);
    }

    /** a is across: 100 and x: into x by b and a less x by b, then 200 and y: into a by y and a by b less y. */
    private static void acrossFirst() {
        QuiltPatches x = Due.told("s5 1;w3 2;");
        due("cut(10, 5)", x.cut(10, 5), 105);
        due("cut(5, 10)", x.cut(5, 10), 205);
        due("cut(10, 10): x is ahead of y", x.cut(10, 10), 105);
        due("cut(6, 5)", x.cut(6, 5), 101);
        due("cut(5, 6)", x.cut(5, 6), 201);
        due("cut(6, 6): x is ahead of y", x.cut(6, 6), 101);
        due("cut(12, 1)", x.cut(12, 1), 3);
        due("cut(12, 2)", x.cut(12, 2), 201);
        due("cut(2, 12)", x.cut(2, 12), 101);
    }

    /** (x rising from 1): the first that there is, and the last that is ever the first as good: the half. */
    private static void firstAndLastCut() {
        QuiltPatches x = Due.told("s8 2;w1 2;");
        due("cut(24, 2): half of it", x.cut(24, 2), 112);
        due("cut(2, 24): half of it", x.cut(2, 24), 212);
        due("good(24, 2)", x.good(24, 2), 48);
        made(x, 24, 2, 0, 2, 0);
        due("cut(23, 2): one of them, and a rest", x.cut(23, 2), 101);
        due("cut(16, 8)", x.cut(16, 8), 108);
        due("cut(8, 16)", x.cut(8, 16), 208);
        due("cut(13, 2)", x.cut(13, 2), 101);
        due("cut(2, 13)", x.cut(2, 13), 201);
        QuiltPatches y = Due.told("s1 1;w1 1;");
        due("cut(2, 1)", y.cut(2, 1), 101);
        due("cut(1, 2)", y.cut(1, 2), 201);
        due("cut(24, 24)", y.cut(24, 24), 101);
    }

    /** the first cut by which GOOD is met. */
    private static void firstOfCutsAsGood() {
        QuiltPatches x = new QuiltPatches();
        due("good(12, 4): blocks alone", x.good(12, 4), 48);
        due("cut(12, 4): 4, not 8", x.cut(12, 4), 104);
        due("good(14, 4)", x.good(14, 4), 56);
        due("cut(14, 4): 4, not 10", x.cut(14, 4), 104);
        made(x, 14, 4, 1, 4, 0);
        due("good(10, 4): four strips", x.good(10, 4), 40);
        due("cut(10, 4)", x.cut(10, 4), 201);
        made(x, 10, 4, 0, 4, 0);
    }

    /** of each there may be as many as can be cut. */
    private static void asManyAsCanBeCut() {
        made(Due.told("s1 4;w3 2;"), 24, 24, 576, 0, 0);
        made(Due.told("s8 3;w3 2;"), 24, 24, 9, 0, 0);
        made(Due.told("s8 4;w3 2;"), 24, 24, 0, 0, 6);
        made(Due.told("s6 3;w3 2;"), 24, 3, 0, 1, 0);
        QuiltPatches x = Due.told("s6 3;w3 2;");
        due("good(24, 24)", x.good(24, 24), 576);
        due("made(24, 24): all of it", 36 * x.made(24, 24, 0) + 72 * x.made(24, 24, 1) + 54 * x.made(24, 24, 2), 576);
    }

    /** MADE of a PIECE: how many of it a rectangle gives, cut on and on by CUT: together they are what is GOOD. */
    private static void madeByCutAlone() {
        for (String text : new String[] {"", "s3 1;w2 2;", "s3 2;w3 1;", "s5 1;w3 2;", "s2 3;w1 2;"}) {
            for (int a = 1; a <= 24; a++) {
                QuiltPatches x = Due.told(text);
                for (int b = 24 - a % 12; b <= 24; b++) {
                    int area = 0;
                    for (int piece = 0; piece < 3; piece++) {
                        area += x.made(a, b, piece) * x.piece(piece, 0) * x.piece(piece, 1);
                    }
                    due("'" + text + "' area made of " + a + " by " + b, area, x.good(a, b));
                    due("'" + text + "' parts of " + a + " by " + b, partsMake(x, a, b), 1);
                }
            }
        }
    }

    /** Whether the two parts of a cut give together what the whole gives. */
    private static int partsMake(QuiltPatches x, int a, int b) {
        int cut = x.cut(a, b);
        if (cut < 100) {
            return 1;
        }
        boolean across = cut < 200;
        int at = across ? cut - 100 : cut - 200;
        for (int piece = 0; piece < 3; piece++) {
            int parts = across ? x.made(at, b, piece) + x.made(a - at, b, piece)
                : x.made(a, at, piece) + x.made(a, b - at, piece);
            if (parts != x.made(a, b, piece)) {
                return 0;
            }
        }
        return 1;
    }

    /** CLOTH is of what was told last; a fault leaves it. */
    private static void clothOfWhatIsTold() {
        QuiltPatches x = new QuiltPatches();
        due("good(9, 9) at first", x.good(9, 9), 64);
        Due.type(x, "s9 1;");
        due("good(9, 9) typed alone", x.good(9, 9), 64);
        due("tells()", x.tells(), 1);
        due("good(9, 9) told", x.good(9, 9), 81);
        due("cut(9, 9) told", x.cut(9, 9), 1);
        due("good(4, 4) told: no piece any more", x.good(4, 4), 0);
        due("cut(4, 4) told: no piece any more", x.cut(4, 4), 0);
        made(x, 4, 4, 0, 0, 0);
        due("cut(10, 1) told: no strip any more", x.cut(10, 1), 0);
        made(x, 10, 1, 0, 0, 0);
        made(x, 8, 8, 0, 0, 0);
        made(x, 9, 9, 1, 0, 0);
        Due.type(x, "s1 1;s");
        due("tells() with a fault", x.tells(), -15);
        due("good(9, 9) behind a fault", x.good(9, 9), 81);
        due("piece(0, 0) behind a fault", x.piece(0, 0), 9);
        x.clear();
        due("tells() of nothing", x.tells(), 0);
        due("good(9, 9) as at first", x.good(9, 9), 64);
        due("made(9, 9, 0) as at first", x.made(9, 9, 0), 4);
    }

    /** Cloth hangs on sizes alone: no KINDS, blocks laid, images: all the same. */
    private static void clothWithoutKinds() {
        QuiltPatches x = Due.told("k0 0 0 0 0 9;");
        due("good(24, 24)", x.good(24, 24), 576);
        x.lays(0, 0);
        x.keep(0);
        x.buys(0, 0);
        x.back(0);
        due("good(24, 24) with a block laid", x.good(24, 24), 576);
        due("made(24, 24, 0) with a block laid", x.made(24, 24, 0), new QuiltPatches().made(24, 24, 0));
    }
}
