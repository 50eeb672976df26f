/** The document's sentences on KINDS and their text that name a boundary, a method for each; the sentence stands above it. */
public final class BoundsOfKindsTest {
    private static final int BAD = QuiltPatches.BAD;
    private static final int FULL = QuiltPatches.FULL;
    private static final int NONE = QuiltPatches.NONE;
    private static final String KIND = "k1 2 3 4 5 6;";
    private static final Due DUE = new Due();

    public static void main(String[] args) {
        sixKindsAtMost();
        noKinds();
        edges();
        hues();
        stocks();
        widthAndHeight();
        rim();
        most();
        sideAndBorder();
        toldAnewBeginsAtFirst();
        lettersAtMost();
        fullTextTells();
        lettersOfAnyNumber();
        blanksBetweenTokens();
        eachOnceAtMost();
        noItemsAreNoFault();
        allItemsThatMayBe();
        faultAtFirstAndLastPlace();
        textStaysBehindAFault();
        numbersOfTwoFigures();
        DUE.end("BoundsOfKindsTest");
    }

    private static void due(String call, int got, int want) {
        DUE.is(call, got, want);
    }

    private static int tells(String text) {
        QuiltPatches x = new QuiltPatches();
        Due.type(x, text);
        return x.tells();
    }

    /** A number in a text: told and found by count(), or a fault at its place. */
    private static void number(String before, String after, int least, int greatest, int what) {
        for (int n = least; n <= greatest; n++) {
            due(before + n + after, Due.told(before + n + after).count(what), n);
        }
        for (int n : new int[] {least - 1, greatest + 1}) {
            // Below 0 there are no figures: the sign itself is a letter that can't stand there.
            due(before + n + after, tells(before + n + after), -10 - before.length());
        }
    }

    /** KINDS 0, 1, .. (6 at most). */
    private static void sixKindsAtMost() {
        StringBuilder text = new StringBuilder();
        for (int k = 0; k < 6; k++) {
            text.append("k").append(k).append(" 9 9 9 ").append(k).append(' ').append(k + 1).append(';');
            QuiltPatches x = Due.told(text.toString());
            due("count(0)", x.count(0), k + 1);
            due("count(10)", x.count(10), k + 1);
            due("kind(last, 0)", x.kind(k, 0), k);
            due("kind(last, 4)", x.kind(k, 4), k);
            due("kind(last, 5)", x.kind(k, 5), k + 1);
            due("kind(last + 1, 0)", x.kind(k + 1, 0), BAD);
            due("block(last, 1)", x.block(4 * k + 3, 3), k);
            due("block(last + 1, 1)", x.block(4 * k + 4, 1), BAD);
        }
        due("a seventh k", tells(text + "k0 0 0 0 0 0;"), -10 - 78);
        due("a seventh k alone", tells(text + "k"), -10 - 78);
        due("a seventh k behind other items", tells(text + "m1;e1; k"), -10 - 85);
    }

    /** No KINDS (a new object, and a text without k). */
    private static void noKinds() {
        for (QuiltPatches x : new QuiltPatches[] {new QuiltPatches(), Due.told(""), Due.told("w3 2;e9;m1;s9 4;")}) {
            due("count(0)", x.count(0), 0);
            due("count(10)", x.count(10), 0);
            due("kind(0, 0)", x.kind(0, 0), BAD);
            due("block(0, 0)", x.block(0, 0), BAD);
            due("hue(0, 0)", x.hue(0, 0), NONE);
            due("many(1)", x.many(1), 0);
        }
        QuiltPatches y = Due.told(KIND.repeat(6));
        y.tells();
        due("count(0) told to nothing", y.count(0), 0);
        due("kind(0, 0) told to nothing", y.kind(0, 0), BAD);
    }

    /** four EDGES (0 .. 9 each: top, right, bottom, left). */
    private static void edges() {
        for (int hand = 0; hand < 4; hand++) {
            for (int edge = 0; edge <= 9; edge++) {
                QuiltPatches x = Due.told(kindWith(hand, edge));
                for (int other = 0; other < 4; other++) {
                    due("edge " + other, x.kind(0, other), other == hand ? edge : 4);
                }
            }
            due("an edge of 10", tells(kindWith(hand, 10)), -10 - 1 - 2 * hand);
            due("an edge of -1", tells(kindWith(hand, -1)), -10 - 1 - 2 * hand);
        }
    }

    /** A kind of 4 4 4 4 4 4 but for the i-th number. */
    private static String kindWith(int i, int number) {
        StringBuilder text = new StringBuilder("k4 4 4 4 4 4;");
        return text.replace(1 + 2 * i, 2 + 2 * i, Integer.toString(number)).toString();
    }

    /** a HUE (0 .. 5). */
    private static void hues() {
        for (int hue = 0; hue <= 5; hue++) {
            due("hue " + hue, Due.told(kindWith(4, hue)).kind(0, 4), hue);
        }
        due("a hue of 6", tells(kindWith(4, 6)), -10 - 9);
        due("a hue of 9", tells(kindWith(4, 9)), -10 - 9);
        due("a hue of -1", tells(kindWith(4, -1)), -10 - 9);
    }

    /** a STOCK (0 .. 9). */
    private static void stocks() {
        for (int stock = 0; stock <= 9; stock++) {
            due("stock " + stock, Due.told(kindWith(5, stock)).kind(0, 5), stock);
            due("left of stock " + stock, Due.told(kindWith(5, stock)).kind(0, 6), 100 + stock);
        }
        due("a stock of 10", tells(kindWith(5, 10)), -10 - 11);
        due("a stock of -1", tells(kindWith(5, -1)), -10 - 11);
    }

    /** A QUILT of WIDTH (1 .. 3; 2 at first) times HEIGHT (1 .. 2; 2 at first) SQUARES. */
    private static void widthAndHeight() {
        due("width at first", new QuiltPatches().count(1), 2);
        due("height at first", new QuiltPatches().count(2), 2);
        due("open squares at first", new QuiltPatches().count(7), 4);
        number("w", " 1;", 1, 3, 1);
        number("w1 ", ";", 1, 2, 2);
        number("w3 ", ";", 1, 2, 2);
        for (int w = 1; w <= 3; w++) {
            for (int h = 1; h <= 2; h++) {
                QuiltPatches x = Due.told("w" + w + " " + h + ";");
                due("open squares of " + w + " by " + h, x.count(7), w * h);
                due("the last square of " + w + " by " + h, x.square(w * h - 1), NONE);
                due("one more of " + w + " by " + h, x.square(w * h), BAD);
            }
        }
    }

    /** RIM: an EDGE (0 .. 9) or none (at first). */
    private static void rim() {
        due("rim at first", new QuiltPatches().count(3), NONE);
        number("e", ";", 0, 9, 3);
    }

    /** MOST (1 .. 9; 9 at first). */
    private static void most() {
        due("most at first", new QuiltPatches().count(4), 9);
        number("m", ";", 1, 9, 4);
        due("m-1", tells("m-1;"), -11);
    }

    /** SIDE (1 .. 9; 4 at first), BORDER (1 .. 4; 1 at first). */
    private static void sideAndBorder() {
        due("side at first", new QuiltPatches().count(5), 4);
        due("border at first", new QuiltPatches().count(6), 1);
        number("s", " 1;", 1, 9, 5);
        number("s1 ", ";", 1, 4, 6);
        number("s9 ", ";", 1, 4, 6);
    }

    /** THE TEXT tells all anew: what it does not name is as at first. */
    private static void toldAnewBeginsAtFirst() {
        int[] first = {0, 2, 2, NONE, 9, 4, 1, 4, 0, 0, 0};
        QuiltPatches x = Due.told(KIND + "w3 1;e0;m1;s9 4;");
        x.buys(0, 1);
        due("tells() of nothing", x.tells(), 0);
        for (int what = 0; what < first.length; what++) {
            due("count(" + what + ") told to nothing", x.count(what), first[what]);
        }
        due("piece(1, 1) told to nothing", x.piece(1, 1), 10);
        due("good(4, 4) told to nothing", x.good(4, 4), 16);
        String[] items = {"w3 1;", "e0;", "m1;", "s9 3;"};
        int[][] named = {{1, 2}, {3, 3}, {4, 4}, {5, 6}};
        for (int i = 0; i < items.length; i++) {
            QuiltPatches y = Due.told(KIND + "w1 2;e5;m5;s5 2;");
            Due.type(y, items[i]);
            due("tells() of " + items[i], y.tells(), 1);
            for (int what = 0; what <= 6; what++) {
                boolean isNamed = what == named[i][0] || what == named[i][1];
                DUE.holds("count(" + what + ") behind " + items[i], isNamed != (y.count(what) == first[what]));
            }
        }
    }

    /** a text (120 letters at most); FULL: 120. */
    private static void lettersAtMost() {
        QuiltPatches x = new QuiltPatches();
        for (int i = 1; i <= 119; i++) {
            x.type(32);
        }
        due("count(8) of 119", x.count(8), 119);
        due("the 120th letter", x.type('e'), 120);
        due("the 121st letter", x.type('e'), FULL);
        due("the 122nd letter", x.type(32), FULL);
        due("count(8) of 120", x.count(8), 120);
        due("tells(): the 120th letter is there, the 121st is not", x.tells(), -10 - 120);
        due("clear() of 120", x.clear(), 120);
        due("a letter behind clear()", x.type('e'), 1);
    }

    /** The full text is told as any other, and is empty then. */
    private static void fullTextTells() {
        String kinds = KIND.repeat(6);
        String text = kinds + " ".repeat(120 - kinds.length() - 16) + "w3 2;e0;m1;s9 4;";
        due("letters of the full text", text.length(), 120);
        QuiltPatches x = new QuiltPatches();
        Due.type(x, text);
        due("one letter more", x.type(';'), FULL);
        due("tells() of the full text", x.tells(), 10);
        due("count(6): its last number", x.count(6), 4);
        due("count(8) behind it", x.count(8), 0);
        due("type() behind it", x.type('e'), 1);
        due("a full text with a number at its end", tells(" ".repeat(118) + "e1"), -10 - 120);
        due("a full text with an item at its end", tells(" ".repeat(117) + "e1;"), 1);
    }

    /** A letter (0 .. 255) comes to THE TEXT; of any other letter, that TOKEN's (place). */
    private static void lettersOfAnyNumber() {
        for (int letter = 0; letter <= 255; letter++) {
            QuiltPatches x = new QuiltPatches();
            x.type(' ');
            due("type(" + letter + ")", x.type(letter), 2);
            boolean begins = "kwems".indexOf(letter) >= 0;
            due("tells() of " + letter, x.tells(), letter == ' ' ? 0 : begins ? -10 - 2 : -10 - 1);
            QuiltPatches y = new QuiltPatches();
            Due.type(y, "e1");
            y.type(letter);
            boolean figure = letter >= '0' && letter <= '9';
            int place = letter == ' ' ? 3 : figure ? 1 : 2;
            due("tells() of e1 and " + letter, y.tells(), letter == ';' ? 1 : -10 - place);
        }
    }

    /** blanks (32) between TOKENS; where no figures meet there need be no blanks. */
    private static void blanksBetweenTokens() {
        due("no blanks but between numbers", tells("k1 2 3 4 5 6;k1 2 3 4 5 6;w1 1;e1;m1;s1 1;"), 6);
        due("blanks everywhere", tells("  k  1  2  3  4  5  6  ;  w  1  1  ;  "), 2);
        due("figures that meet are one number", tells("w11;"), -10 - 1);
        due("six figures that meet", tells("k123456;"), -10 - 1);
        due("a blank within a number makes two", tells("e1 0;"), -10 - 3);
        due("a tab is no blank", tells("w1\t1;"), -10 - 2);
        due("a line's end is no blank", tells("e1;\n"), -10 - 3);
        due("0 is no blank", tells("e1;" + (char) 0), -10 - 3);
        due("160 is no blank", tells("e1;" + (char) 160), -10 - 3);
    }

    /** each of these four once at most; FAULT: a letter told again, too. */
    private static void eachOnceAtMost() {
        String[] items = {"w1 1;", "e1;", "m1;", "s1 1;"};
        for (String item : items) {
            due(item + " once", tells(item), 1);
            due(item + " twice", tells(item + item), -10 - item.length());
            due(item + " again behind a kind", tells(item + KIND + item), -10 - item.length() - KIND.length());
            for (String other : items) {
                if (!other.equals(item)) {
                    due(item + other, tells(item + other), 2);
                    due(item + other + item, tells(item + other + item), -10 - item.length() - other.length());
                }
            }
            QuiltPatches x = Due.told(item);
            Due.type(x, item);
            due(item + " in another text", x.tells(), 1);
        }
    }

    /** No ITEMS are no FAULT. */
    private static void noItemsAreNoFault() {
        due("the empty text", tells(""), 0);
        due("a blank", tells(" "), 0);
        due("a full text of blanks", tells(" ".repeat(120)), 0);
        due("a lone end of an item", tells(";"), -10);
        due("an end too many", tells("e1; ;"), -10 - 4);
    }

    /** how many ITEMS: at most six of k and one of each other. */
    private static void allItemsThatMayBe() {
        due("one item", tells("m9;"), 1);
        due("ten items", tells("s1 1;" + KIND.repeat(3) + "e1;w1 1;" + KIND.repeat(3) + "m1;"), 10);
    }

    /** FAULT: the place of the first letter of the first TOKEN that can't stand there; the text's length. */
    private static void faultAtFirstAndLastPlace() {
        due("place 0", tells("x"), -10);
        due("place 0 of many", tells("9".repeat(120)), -10);
        due("place 119", tells(" ".repeat(119) + "x"), -10 - 119);
        due("place 119 of a number", tells(" ".repeat(119) + "1"), -10 - 119);
        due("place 120: too early", tells(" ".repeat(119) + "k"), -10 - 120);
        due("too early, blanks counted", tells("s1 1   "), -10 - 7);
        String item = "k1 2 3 4 5 6";
        for (int length = 1; length <= item.length(); length++) {
            due("the first " + length + " of a kind", tells(item.substring(0, length)), -10 - length);
        }
    }

    /** -10 less FAULT: nothing changes (THE TEXT stays, too). */
    private static void textStaysBehindAFault() {
        QuiltPatches x = new QuiltPatches();
        Due.type(x, "e");
        due("tells() too early", x.tells(), -11);
        due("tells() again", x.tells(), -11);
        due("count(8)", x.count(8), 1);
        due("type() goes on", x.type('3'), 2);
        due("tells() too early still", x.tells(), -12);
        due("type() goes on still", x.type(';'), 3);
        due("tells() in the end", x.tells(), 1);
        due("count(3) in the end", x.count(3), 3);
    }

    /** a NUMBER above 99 or with a 0 ahead of others. */
    private static void numbersOfTwoFigures() {
        due("0", tells("e0;"), 1);
        due("00", tells("e00;"), -11);
        due("01", tells("e01;"), -11);
        due("10", tells("e10;"), -11);
        due("99", tells("e99;"), -11);
        due("100", tells("e100;"), -11);
        due("256 and 1", tells("e257;"), -11);
        due("2 to the 32nd", tells("e4294967296;"), -11);
        due("where no number can stand", tells("e1 007;"), -13);
        due("where an item begins", tells("e1;100"), -13);
    }
}
