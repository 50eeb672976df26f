import java.util.ArrayDeque;
import java.util.Deque;

/** The document's sentences on BLOCKS, what FITS, what is DONE and UNDONE, and IMAGES: a method for each boundary named. */
public final class BoundsOfBlocksTest {
    private static final int BAD = QuiltPatches.BAD;
    private static final int STATE = QuiltPatches.STATE;
    private static final int NONE = QuiltPatches.NONE;
    /** For each size: width, height, then the pairs of squares that are beside one another. */
    private static final int[][] BESIDE = {{1, 1}, {2, 1, 0, 1}, {3, 1, 0, 1, 1, 2}, {1, 2, 0, 1},
        {2, 2, 0, 1, 2, 3, 0, 2, 1, 3}, {3, 2, 0, 1, 1, 2, 3, 4, 4, 5, 0, 3, 1, 4, 2, 5}};
    /** For each of these sizes and each square the hands (t, r, b, l) that are at the quilt's side. */
    private static final String[][] SIDES = {{"trbl"}, {"tbl", "trb"}, {"tbl", "tb", "trb"}, {"trl", "rbl"},
        {"tl", "tr", "bl", "rb"}, {"tl", "t", "tr", "bl", "b", "rb"}};
    private static final Due DUE = new Due();

    public static void main(String[] args) {
        turnsGoRound();
        plain();
        leftFallsBelowNone();
        noneLeft();
        squaresBeside();
        seamsOnEachHand();
        rimAtTheSides();
        rimOrNone();
        mostOfAHue();
        hueOfTwoKinds();
        firstReasonIsWhy();
        layingTheLast();
        stockBelowWhatIsLaid();
        clearsOfNoneAndAll();
        tenAreKnown();
        eleventhIsLost();
        knownGoRound();
        refusedIsNotUndone();
        undoneIsGone();
        imagesApart();
        imagesKeepSquaresAndStocks();
        nothingUndoneBehindBack();
        readAnew();
        DUE.end("BoundsOfBlocksTest");
    }

    private static void due(String call, int got, int want) {
        DUE.is(call, got, want);
    }

    private static QuiltPatches uniform(int stock, String more) {
        return Due.told("k0 0 0 0 0 " + stock + ";" + more);
    }

    /** a TURN (0 .. 3): turned to the right by so many quarters (at TURN 1 its top EDGE is the KIND's left one). */
    private static void turnsGoRound() {
        QuiltPatches x = Due.told("k5 5 5 5 0 1;k1 2 3 4 0 1;k6 7 8 9 0 1;");
        int[] edges = {6, 7, 8, 9};
        for (int turn = 0; turn < 4; turn++) {
            for (int hand = 0; hand < 4; hand++) {
                due("block(" + (8 + turn) + ", " + hand + ")", x.block(8 + turn, hand), edges[(hand + 4 - turn) % 4]);
                due("block(" + (4 + turn) + ", " + hand + ")", x.block(4 + turn, hand), (hand + 4 - turn) % 4 + 1);
            }
        }
        due("TURN 1: top is the kind's left", x.block(5, 0), x.kind(1, 3));
        due("TURN 1: right is the kind's top", x.block(5, 1), x.kind(1, 0));
        due("TURN 3: top is the kind's right", x.block(7, 0), x.kind(1, 1));
        due("the last block of three kinds", x.block(11, 3), 6);
        due("no such block", x.block(12, 3), BAD);
    }

    /** It is PLAIN, if no lesser TURN of its KIND has the same four EDGES. */
    private static void plain() {
        String[] kinds = {"0 0 0 0", "0 1 0 1", "0 0 1 1", "0 0 0 1", "0 1 0 2", "9 8 7 6"};
        int[] plainTurns = {1, 2, 4, 4, 4, 4};
        StringBuilder text = new StringBuilder();
        for (String kind : kinds) {
            text.append('k').append(kind).append(" 0 0;");
        }
        QuiltPatches x = Due.told(text.toString());
        for (int k = 0; k < kinds.length; k++) {
            for (int turn = 0; turn < 4; turn++) {
                due("'" + kinds[k] + "' at turn " + turn, x.block(4 * k + turn, 4), turn < plainTurns[k] ? 1 : 0);
            }
        }
        QuiltPatches same = Due.told("k1 2 3 4 0 1;k1 2 3 4 0 1;");
        due("the same edges in another kind", same.block(4, 4), 1);
    }

    /** LEFT of a KIND: its STOCK less SQUARES that have a BLOCK of it; LEFT and 100. */
    private static void leftFallsBelowNone() {
        QuiltPatches x = uniform(6, "w3 2;");
        for (int s = 0; s < 6; s++) {
            x.lays(s, s % 4);
            due("kind(0, 6) with " + (s + 1) + " laid", x.kind(0, 6), 100 + 5 - s);
        }
        x.buys(0, 0);
        due("kind(0, 6) of six laid and no stock", x.kind(0, 6), 94);
        due("kind(0, 5) of six laid and no stock", x.kind(0, 5), 0);
        x.buys(0, 9);
        due("kind(0, 6) of six laid and nine", x.kind(0, 6), 103);
        x.clears();
        due("kind(0, 6) of none laid and nine", x.kind(0, 6), 109);
    }

    /** 1 LEFT of its KIND is 0 (or less). */
    private static void noneLeft() {
        QuiltPatches x = uniform(1, "w3 1;");
        due("one left", x.fits(1, 0), 0);
        x.lays(0, 0);
        due("none left", x.fits(1, 0), 1);
        due("none left, another turn", x.lays(1, 3), -11);
        x.buys(0, 0);
        due("less than none left", x.fits(1, 0), 1);
        due("less than none left, laid", x.lays(1, 0), -11);
        x.buys(0, 2);
        due("one left again", x.lays(1, 0), 1);
        due("stock of none", uniform(0, "").fits(0, 0), 1);
    }

    /** SQUARES, numbered y times WIDTH and x; 2 a SQUARE beside it has a BLOCK whose EDGE there is another one. */
    private static void squaresBeside() {
        for (int[] size : BESIDE) {
            int squares = size[0] * size[1];
            for (int s = 0; s < squares; s++) {
                for (int t = 0; t < squares; t++) {
                    if (s != t) {
                        QuiltPatches x = Due.told("k0 0 0 0 0 9;k1 1 1 1 0 9;w" + size[0] + " " + size[1] + ";");
                        x.lays(s, 0);
                        due(size[0] + " by " + size[1] + ": " + t + " beside " + s, x.fits(t, 4), areBeside(size, s, t) ? 2 : 0);
                        due(size[0] + " by " + size[1] + ": the same edge", x.fits(t, 0), 0);
                    }
                }
            }
        }
    }

    private static boolean areBeside(int[] size, int s, int t) {
        for (int i = 2; i + 1 < size.length; i += 2) {
            if (size[i] == Math.min(s, t) && size[i + 1] == Math.max(s, t)) {
                return true;
            }
        }
        return false;
    }

    /** (above, right, below, left): the edge that is looked at is the one on that hand. */
    private static void seamsOnEachHand() {
        for (int at = 0; at < 6; at++) {
            for (int beside = 0; beside < 6; beside++) {
                if (at != beside && areBeside(BESIDE[5], at, beside)) {
                    seamToward(at, beside);
                }
            }
        }
    }

    /** A kind with one edge of 5, else 6, beside one with 5 on all hands, and beside one with 6 on all hands. */
    private static void seamToward(int at, int beside) {
        String text = "k6 6 6 5 0 9;k5 5 5 5 0 9;k6 6 6 6 0 9;w3 2;";
        for (int turn = 0; turn < 4; turn++) {
            boolean fiveIsThere = turn == turnToward(at, beside);
            QuiltPatches x = Due.told(text);
            x.lays(beside, 4);
            due("turn " + turn + " at " + at + ", a 5 at " + beside, x.fits(at, turn), fiveIsThere ? 0 : 2);
            QuiltPatches y = Due.told(text);
            y.lays(beside, 8);
            due("turn " + turn + " at " + at + ", a 6 at " + beside, y.fits(at, turn), fiveIsThere ? 2 : 0);
            QuiltPatches z = Due.told(text);
            z.lays(beside, turn);
            boolean fiveIsHere = turn == turnToward(beside, at);
            due("a 5 at " + at + ", turn " + turn + " at " + beside, z.fits(at, 4), fiveIsHere ? 0 : 2);
        }
    }

    /** The turn at which a kind's left edge is toward the other square; on three by two. */
    private static int turnToward(int at, int other) {
        return other == at - 1 ? 0 : other == at - 3 ? 1 : other == at + 1 ? 2 : 3;
    }

    /** 3 there is a RIM, it is at the QUILT's side, and its EDGE there is not the RIM. */
    private static void rimAtTheSides() {
        for (int i = 0; i < BESIDE.length; i++) {
            String size = "w" + BESIDE[i][0] + " " + BESIDE[i][1] + ";";
            for (int s = 0; s < SIDES[i].length; s++) {
                QuiltPatches x = Due.told("k7 7 7 8 0 9;k8 8 8 7 0 9;e7;" + size);
                for (int turn = 0; turn < 4; turn++) {
                    // At turn 0 the other edge is at the left, then at the top, the right, the bottom.
                    boolean atSide = SIDES[i][s].indexOf("ltrb".charAt(turn)) >= 0;
                    due(size + " fits(" + s + ", " + turn + ")", x.fits(s, turn), atSide ? 3 : 0);
                    boolean onlyThere = SIDES[i][s].equals("ltrb".substring(turn, turn + 1));
                    due(size + " fits(" + s + ", " + (4 + turn) + ")", x.fits(s, 4 + turn), onlyThere ? 0 : 3);
                }
            }
        }
    }

    /** RIM: an EDGE (0 .. 9) or none: 0 is a RIM as well. */
    private static void rimOrNone() {
        for (int rim = 0; rim <= 9; rim++) {
            QuiltPatches x = Due.told("k0 0 0 0 0 9;k9 9 9 9 0 9;k4 4 4 4 0 9;w1 1;e" + rim + ";");
            due("edges 0 at a rim " + rim, x.fits(0, 0), rim == 0 ? 0 : 3);
            due("edges 9 at a rim " + rim, x.fits(0, 4), rim == 9 ? 0 : 3);
            due("edges 4 at a rim " + rim, x.fits(0, 8), rim == 4 ? 0 : 3);
        }
        QuiltPatches y = Due.told("k0 1 2 3 0 9;w1 1;");
        due("any edges without a rim", y.fits(0, 0), 0);
    }

    /** 4 SQUARES that have a BLOCK of its HUE are MOST or more. */
    private static void mostOfAHue() {
        for (int most = 1; most <= 9; most++) {
            QuiltPatches x = uniform(9, "w3 2;m" + most + ";");
            for (int s = 0; s < 6; s++) {
                due("most " + most + ": fits(" + s + ", 0)", x.fits(s, 0), s < most ? 0 : 4);
                due("most " + most + ": lays(" + s + ", 0)", x.lays(s, 0), s < most ? 5 - s : -14);
            }
            due("most " + most + ": hue(0, 2)", x.hue(0, 2), Math.min(most, 6));
        }
    }

    /** A HUE is that of all its KINDS; another HUE does not count. */
    private static void hueOfTwoKinds() {
        QuiltPatches x = Due.told("k0 0 0 0 5 9;k0 0 0 0 5 9;k0 0 0 0 4 9;w3 2;m2;");
        x.lays(0, 0);
        x.lays(1, 8);
        due("one of the hue", x.fits(2, 4), 0);
        x.lays(2, 4);
        due("two of the hue", x.fits(3, 0), 4);
        due("two of the hue, the other kind", x.fits(3, 4), 4);
        due("one of another hue", x.fits(3, 8), 0);
        x.takes(0);
        due("one of the hue again", x.fits(3, 4), 0);
    }

    /** if none of these is so, of which the first is WHY: all sixteen ways in which the four are so or not. */
    private static void firstReasonIsWhy() {
        String kinds = "k0 0 0 0 0 9;k0 0 0 0 1 9;k0 0 0 5 0 9;k0 0 0 5 1 9;k0 5 0 5 0 9;k0 5 0 5 1 9;w2 1;e0;m1;";
        // Edges that keep all, that miss the seam at the left, that miss the rim, that miss both.
        int[] blocks = {0, 8, 9, 16};
        for (int none = 0; none < 2; none++) {
            for (int edges = 0; edges < 4; edges++) {
                for (int tooOften = 0; tooOften < 2; tooOften++) {
                    QuiltPatches x = Due.told(kinds);
                    x.lays(0, 0);
                    int block = blocks[edges] + (tooOften == 1 ? 0 : 4);
                    if (none == 1) {
                        x.buys(block / 4, 0);
                    }
                    int why = none == 1 ? 1 : edges == 1 || edges == 3 ? 2 : edges == 2 ? 3 : tooOften == 1 ? 4 : 0;
                    String how = "none left " + none + ", edges " + edges + ", hue too often " + tooOften;
                    due("fits(): " + how, x.fits(1, block), why);
                    due("lays(): " + how, x.lays(1, block), why == 0 ? 0 : -10 - why);
                    due("square(1): " + how, x.square(1), why == 0 ? block : NONE);
                }
            }
        }
    }

    /** how many SQUARES are OPEN: 0 behind the last; then no SQUARE is OPEN. */
    private static void layingTheLast() {
        for (int[] size : BESIDE) {
            int squares = size[0] * size[1];
            QuiltPatches x = uniform(9, "w" + size[0] + " " + size[1] + ";");
            due("all are open", x.count(7), squares);
            for (int s = squares - 1; s >= 0; s--) {
                due("lays(" + s + ", 2)", x.lays(s, 2), s);
                due("square(" + s + ")", x.square(s), 2);
            }
            due("none is open", x.count(7), 0);
            due("takes() of the last", x.takes(squares - 1), 2);
            due("one is open", x.count(7), 1);
            due("lays() there again", x.lays(squares - 1, 3), 0);
        }
    }

    /** a KIND's STOCK told anew (it may be less than SQUARES have). */
    private static void stockBelowWhatIsLaid() {
        QuiltPatches x = uniform(4, "");
        for (int s = 0; s < 4; s++) {
            x.lays(s, 0);
        }
        due("buys(0, 3)", x.buys(0, 3), 4);
        due("buys(0, 0)", x.buys(0, 0), 3);
        due("the squares stay", x.count(7), 0);
        due("takes(3) at less than none left", x.takes(3), 0);
        due("kind(0, 6)", x.kind(0, 6), 97);
        due("it does not go back", x.lays(3, 0), -11);
        due("undo() of takes()", x.undo(), 6);
        due("it is there again, though none is left", x.square(3), 0);
        due("buys(0, 9)", x.buys(0, 9), 0);
        due("buys(0, 9) again", x.buys(0, 9), STATE);
    }

    /** All SQUARES are OPEN: how many were not (0, too). */
    private static void clearsOfNoneAndAll() {
        QuiltPatches x = uniform(9, "w3 2;");
        due("clears() of none", x.clears(), 0);
        due("clears() of none is known", x.count(9), 1);
        for (int s = 0; s < 6; s++) {
            x.lays(s, 1);
        }
        x.buys(0, 2);
        due("clears() of all", x.clears(), 6);
        due("all are open", x.count(7), 6);
        due("clears() leaves the stock", x.kind(0, 5), 2);
        due("undo() of clears()", x.undo(), 8);
        due("none is open", x.count(7), 0);
    }

    /** 10 are known: the tenth can be UNDONE. */
    private static void tenAreKnown() {
        QuiltPatches x = uniform(0, "");
        for (int i = 1; i <= 10; i++) {
            x.buys(0, i % 10 == 0 ? 1 : i);
            due("count(9) of " + i, x.count(9), i);
        }
        for (int i = 9; i >= 0; i--) {
            due("undo()", x.undo(), i);
            due("the stock before the " + (i + 1) + "th", x.kind(0, 5), i);
        }
        due("undo() of no more", x.undo(), STATE);
        due("the first stock", x.kind(0, 5), 0);
    }

    /** older ones are lost: the eleventh. */
    private static void eleventhIsLost() {
        QuiltPatches x = uniform(0, "");
        for (int i = 1; i <= 11; i++) {
            x.buys(0, i < 10 ? i : i - 9);
        }
        due("count(9) of eleven", x.count(9), 10);
        for (int i = 9; i >= 0; i--) {
            due("undo()", x.undo(), i);
        }
        due("undo() of the eleventh", x.undo(), STATE);
        due("what the first of eleven made", x.kind(0, 5), 1);
    }

    /** All four kinds of things done, more than ten, some undone in between, the rest in the end. */
    private static void knownGoRound() {
        QuiltPatches x = uniform(9, "w2 1;");
        Deque<Integer> past = new ArrayDeque<>();
        for (int step = 0; step < 40; step++) {
            int before = squareAndStock(x);
            doOne(x, step);
            past.addLast(before);
            if (past.size() > 10) {
                past.removeFirst();
            }
            due("count(9) behind step " + step, x.count(9), past.size());
            if (step % 8 == 7) {
                undoOne(x, past);
                undoOne(x, past);
                undoOne(x, past);
            }
        }
        due("known in the end", past.size(), 7);
        while (!past.isEmpty()) {
            undoOne(x, past);
        }
        due("undo() of no more", x.undo(), STATE);
    }

    /** Something that is not refused, of each kind in turn. */
    private static void doOne(QuiltPatches x, int step) {
        boolean open = x.square(0) == NONE;
        int answer;
        switch (step % 4) {
            case 0:
            case 2:
                answer = open ? x.lays(0, step / 2 % 4) : x.takes(0);
                break;
            case 1:
                answer = x.buys(0, x.kind(0, 5) == 9 ? 3 : x.kind(0, 5) + 1);
                break;
            default:
                answer = x.clears();
        }
        DUE.holds("step " + step + " is not refused", answer >= 0);
    }

    private static void undoOne(QuiltPatches x, Deque<Integer> past) {
        int before = past.removeLast();
        due("undo()", x.undo(), past.size());
        due("undone", squareAndStock(x), before);
    }

    /** Few calls, so that a long run stays within the 512 that count. */
    private static int squareAndStock(QuiltPatches x) {
        return 10 * x.square(0) + x.kind(0, 5);
    }

    /** the latest lays(), takes(), buys(), clears() that was not refused. */
    private static void refusedIsNotUndone() {
        QuiltPatches x = uniform(2, "w2 1;");
        x.lays(0, 0);
        x.lays(0, 1);
        x.lays(9, 0);
        x.takes(1);
        x.takes(-1);
        x.buys(0, 2);
        x.buys(0, 10);
        x.undo();
        due("undo() took the only one", x.count(9), 0);
        due("the square is open", x.square(0), NONE);
        due("undo() of refused ones", x.undo(), STATE);
        x.keep(0);
        x.many(5);
        x.type(32);
        due("what is neither done nor undone", x.count(9), 0);
    }

    /** What was UNDONE is not done again, and something else may be. */
    private static void undoneIsGone() {
        QuiltPatches x = uniform(9, "w2 1;");
        x.lays(0, 1);
        x.lays(1, 2);
        due("undo()", x.undo(), 1);
        due("lays() of another", x.lays(1, 3), 0);
        due("count(9)", x.count(9), 2);
        due("undo() of the other", x.undo(), 1);
        due("square(1)", x.square(1), NONE);
        due("undo() of the first", x.undo(), 0);
        due("square(0)", x.square(0), NONE);
    }

    /** IMAGES 0, 1; STATE: none was kept. */
    private static void imagesApart() {
        QuiltPatches x = uniform(9, "w2 1;");
        due("back(0): never kept", x.back(0), STATE);
        due("back(1): never kept", x.back(1), STATE);
        x.lays(0, 1);
        due("keep(1)", x.keep(1), 1);
        due("back(0): the other was kept", x.back(0), STATE);
        x.lays(1, 2);
        due("keep(0) with none open", x.keep(0), 0);
        x.clears();
        due("back(1)", x.back(1), 1);
        due("square(1) of image 1", x.square(1), NONE);
        due("back(0)", x.back(0), 0);
        due("square(1) of image 0", x.square(1), 2);
        x.clears();
        due("keep(0) anew", x.keep(0), 2);
        due("back(1) is not changed by it", x.back(1), 1);
        due("back(0) anew", x.back(0), 2);
    }

    /** IMAGES keep SQUARES and STOCKS; nothing else. */
    private static void imagesKeepSquaresAndStocks() {
        QuiltPatches x = Due.told("k0 0 0 0 0 2;k0 0 0 0 1 9;w3 2;");
        x.lays(0, 3);
        x.lays(5, 6);
        x.buys(1, 0);
        Due.type(x, "abc");
        String kept = Seen.layout(x);
        due("keep(0)", x.keep(0), 4);
        due("keep() leaves what may be undone", x.count(9), 3);
        x.clears();
        x.buys(0, 9);
        x.buys(1, 4);
        x.lays(2, 2);
        x.type('d');
        due("back(0)", x.back(0), 4);
        DUE.same("squares and stocks are back", Seen.layout(x), kept);
        due("the text is as it was typed", x.count(8), 4);
        x.takes(0);
        x.buys(0, 5);
        due("back(0): the image itself was not changed", x.back(0), 4);
        DUE.same("squares and stocks are back again", Seen.layout(x), kept);
        due("kind(1, 6): less than none left is kept as well", x.kind(1, 6), 99);
    }

    /** nothing can be UNDONE behind back(). */
    private static void nothingUndoneBehindBack() {
        QuiltPatches x = uniform(9, "");
        x.lays(0, 0);
        x.keep(0);
        due("back() that changes nothing", x.back(0), 3);
        due("count(9) behind back()", x.count(9), 0);
        due("undo() behind back()", x.undo(), STATE);
        due("the square stays", x.square(0), 0);
        x.lays(1, 0);
        due("what is done behind back() can be undone", x.undo(), 0);
        due("but no more", x.undo(), STATE);
        due("the square stays still", x.square(0), 0);
        x.lays(1, 0);
        due("back(1): refused", x.back(1), STATE);
        due("count(9) behind the refused one", x.count(9), 1);
        due("back(2): refused", x.back(2), BAD);
        due("count(9) behind that", x.count(9), 1);
    }

    /** Read anew: as told, all OPEN; IMAGES are gone, nothing can be UNDONE. */
    private static void readAnew() {
        String text = "k0 0 0 0 0 5;w2 1;";
        QuiltPatches x = Due.told(text);
        x.lays(0, 0);
        x.buys(0, 3);
        x.keep(0);
        x.keep(1);
        Due.type(x, "K");
        due("tells() with a fault", x.tells(), -10);
        due("what may be undone stays", x.count(9), 2);
        due("the stock stays", x.kind(0, 5), 3);
        x.clear();
        Due.type(x, text);
        due("tells() of the same text", x.tells(), 2);
        due("the stock is as told", x.kind(0, 5), 5);
        due("all are open", x.count(7), 2);
        due("count(9)", x.count(9), 0);
        due("undo()", x.undo(), STATE);
        due("back(0)", x.back(0), STATE);
        due("back(1)", x.back(1), STATE);
    }
}
