import java.util.Arrays;

/**
 * Quilts of turned blocks: told by a text, laid, winnowed, counted, and the cloth for them cut.
 * Everything is made in the constructor and used again, so that no call makes an object.
 */
public final class QuiltPatches {
    public static final int BAD = -1, STATE = -2, FULL = -3, NONE = -9;

    private static final int LETTERS = 120;
    private static final int KINDS = 6;
    private static final int TURNS = 4;
    private static final int HANDS = 4;
    private static final int BLOCKS = KINDS * TURNS;
    private static final int EDGES = 10;
    private static final int HUES = 6;
    private static final int SQUARES = 6;
    private static final int MOST_STOCK = 9;
    private static final int MOST_QUILTS = 300;
    private static final int KNOWN = 10;
    private static final int IMAGES = 2;
    private static final int PIECES = 3;
    private static final int LONGEST = 24;
    private static final int REFUSED = -10;

    private static final int TOP = 0;
    private static final int RIGHT = 1;
    private static final int BOTTOM = 2;
    private static final int LEFT_HAND = 3;

    private final int[] text = new int[LETTERS];
    private int letters;
    private final Reader reader = new Reader();
    private Told told = new Told();
    private Told spare = new Told();
    private final Layout now = new Layout();
    private final Layout supposed = new Layout();
    private final Layout[] past = new Layout[KNOWN];
    private int pastEnd;
    private int undoable;
    private final Layout[] images = new Layout[IMAGES];
    private final boolean[] kept = new boolean[IMAGES];
    private final Winnow winnow = new Winnow();
    private final Finder finder = new Finder();
    private final Cloth cloth = new Cloth();
    private final int[] firstQuilt = new int[SQUARES];

    public QuiltPatches() {
        for (int i = 0; i < KNOWN; i++) {
            past[i] = new Layout();
        }
        for (int i = 0; i < IMAGES; i++) {
            images[i] = new Layout();
        }
        cloth.measure(told);
    }

    // ---- what is told

    public int type(int letter) {
        if (letter < 0 || letter > 255) {
            return BAD;
        }
        if (letters >= LETTERS) {
            return FULL;
        }
        text[letters] = letter;
        letters++;
        return letters;
    }

    public int clear() {
        int had = letters;
        letters = 0;
        return had;
    }

    public int tells() {
        int items = reader.readInto(spare, text, letters);
        if (items < 0) {
            return items;
        }
        Told old = told;
        told = spare;
        spare = old;
        told.settleBlocks();
        now.begin(told);
        letters = 0;
        undoable = 0;
        forgetImages();
        cloth.measure(told);
        return items;
    }

    public int kind(int k, int what) {
        if (!isKind(k) || what < 0 || what > 6) {
            return BAD;
        }
        switch (what) {
            case 4:
                return told.hues[k];
            case 5:
                return now.stocks[k];
            case 6:
                return now.leftOf(k) + 100;
            default:
                return told.edgeOf(k * TURNS, what);
        }
    }

    public int block(int block, int what) {
        if (!isBlock(block) || what < 0 || what > 4) {
            return BAD;
        }
        if (what == 4) {
            return told.isPlain(block) ? 1 : 0;
        }
        return told.edgeOf(block, what);
    }

    // ---- what is done

    public int lays(int square, int block) {
        if (!isSquare(square) || !isBlock(block)) {
            return BAD;
        }
        if (!now.isOpen(square)) {
            return STATE;
        }
        int why = whyNot(square, block);
        if (why != 0) {
            return REFUSED - why;
        }
        remember();
        now.blocks[square] = block;
        return openSquares();
    }

    public int takes(int square) {
        if (!isSquare(square)) {
            return BAD;
        }
        if (now.isOpen(square)) {
            return STATE;
        }
        remember();
        int block = now.blocks[square];
        now.blocks[square] = NONE;
        return block;
    }

    public int buys(int k, int stock) {
        if (!isKind(k) || stock < 0 || stock > MOST_STOCK) {
            return BAD;
        }
        int was = now.stocks[k];
        if (was == stock) {
            return STATE;
        }
        remember();
        now.stocks[k] = stock;
        return was;
    }

    public int clears() {
        int had = told.squares() - openSquares();
        remember();
        now.openAll();
        return had;
    }

    public int undo() {
        if (undoable < 1) {
            return STATE;
        }
        pastEnd = (pastEnd + KNOWN - 1) % KNOWN;
        undoable--;
        now.become(past[pastEnd]);
        return undoable;
    }

    // ---- squares

    public int square(int square) {
        if (!isSquare(square)) {
            return BAD;
        }
        return now.blocks[square];
    }

    public int fits(int square, int block) {
        if (!isSquare(square) || !isBlock(block)) {
            return BAD;
        }
        if (!now.isOpen(square)) {
            return STATE;
        }
        return whyNot(square, block);
    }

    public int left(int square, int i) {
        if (!isSquare(square) || i < -1) {
            return BAD;
        }
        if (!now.isOpen(square)) {
            return STATE;
        }
        winnow.begin(told, now);
        winnow.settle(told, now);
        int set = winnow.sets[square];
        return i == -1 ? Integer.bitCount(set) : bitAt(set, i);
    }

    public int hue(int i, int what) {
        if (i < 0 || what < 0 || what > 2) {
            return BAD;
        }
        int which = told.hueAt(i);
        if (which < 0 || what == 0) {
            return which;
        }
        return what == 1 ? told.kindsOfHue(which) : now.squaresOfHue(told, which);
    }

    // ---- all quilts

    public int many(int most) {
        if (most < 1 || most > MOST_QUILTS) {
            return BAD;
        }
        return quiltsOf(now, most);
    }

    public int quilt(int k, int square) {
        if (k < 0 || k >= MOST_QUILTS || !isSquare(square)) {
            return BAD;
        }
        return quiltsOf(now, k + 1) > k ? finder.latest[square] : NONE;
    }

    public int sure() {
        if (quiltsOf(now, 1) < 1) {
            return 0;
        }
        System.arraycopy(finder.latest, 0, firstQuilt, 0, SQUARES);
        int same = 0;
        for (int s = 0; s < told.squares(); s++) {
            if (now.isOpen(s)) {
                same |= 1 << s;
            }
        }
        for (int s = 0; s < SQUARES; s++) {
            if ((same >> s & 1) == 1) {
                same = sameWithAnotherAt(s, same);
            }
        }
        return same;
    }

    public int next() {
        winnow.begin(told, now);
        winnow.settle(told, now);
        int best = NONE;
        int fewest = BLOCKS + 1;
        for (int s = 0; s < told.squares(); s++) {
            int leftHere = Integer.bitCount(winnow.sets[s]);
            if (now.isOpen(s) && leftHere < fewest) {
                best = s;
                fewest = leftHere;
            }
        }
        return best;
    }

    public int wanting(int k) {
        if (!isKind(k)) {
            return BAD;
        }
        supposed.become(now);
        // More stock never takes a quilt away: if the most is too little, all are.
        supposed.stocks[k] = MOST_STOCK;
        if (quiltsOf(supposed, 1) < 1) {
            return NONE;
        }
        for (int stock = 0; stock < MOST_STOCK; stock++) {
            supposed.stocks[k] = stock;
            if (quiltsOf(supposed, 1) > 0) {
                return stock;
            }
        }
        return MOST_STOCK;
    }

    // ---- cloth

    public int piece(int piece, int what) {
        if (!isPiece(piece) || what < 0 || what > 1) {
            return BAD;
        }
        return what == 0 ? cloth.lesser[piece] : cloth.greater[piece];
    }

    public int good(int a, int b) {
        if (!isRectangle(a, b)) {
            return BAD;
        }
        cloth.know();
        return cloth.used[Cloth.at(a, b)];
    }

    public int cut(int a, int b) {
        if (!isRectangle(a, b)) {
            return BAD;
        }
        cloth.know();
        return cloth.cuts[Cloth.at(a, b)];
    }

    public int made(int a, int b, int piece) {
        if (!isRectangle(a, b) || !isPiece(piece)) {
            return BAD;
        }
        cloth.know();
        return cloth.gives[piece * Cloth.CELLS + Cloth.at(a, b)];
    }

    // ---- images

    public int keep(int image) {
        if (!isImage(image)) {
            return BAD;
        }
        images[image].become(now);
        kept[image] = true;
        return openSquares();
    }

    public int back(int image) {
        if (!isImage(image)) {
            return BAD;
        }
        if (!kept[image]) {
            return STATE;
        }
        now.become(images[image]);
        undoable = 0;
        return openSquares();
    }

    public int count(int what) {
        switch (what) {
            case 0:
                return told.kinds;
            case 1:
                return told.width;
            case 2:
                return told.height;
            case 3:
                return told.rim;
            case 4:
                return told.most;
            case 5:
                return told.side;
            case 6:
                return told.border;
            case 7:
                return openSquares();
            case 8:
                return letters;
            case 9:
                return undoable;
            case 10:
                return told.hueCount();
            default:
                return BAD;
        }
    }

    // ---- what the calls share

    private boolean isKind(int k) {
        return k >= 0 && k < told.kinds;
    }

    private boolean isBlock(int block) {
        return block >= 0 && block < told.kinds * TURNS;
    }

    private boolean isSquare(int square) {
        return square >= 0 && square < told.squares();
    }

    private static boolean isPiece(int piece) {
        return piece >= 0 && piece < PIECES;
    }

    private static boolean isRectangle(int a, int b) {
        return a >= 1 && a <= LONGEST && b >= 1 && b <= LONGEST;
    }

    private static boolean isImage(int image) {
        return image >= 0 && image < IMAGES;
    }

    private int openSquares() {
        int open = 0;
        for (int s = 0; s < told.squares(); s++) {
            if (now.isOpen(s)) {
                open++;
            }
        }
        return open;
    }

    private void forgetImages() {
        for (int i = 0; i < IMAGES; i++) {
            kept[i] = false;
        }
    }

    private void remember() {
        past[pastEnd].become(now);
        pastEnd = (pastEnd + 1) % KNOWN;
        undoable = Math.min(undoable + 1, KNOWN);
    }

    /** Why a block does not fit an open square, the first reason; 0 if it fits. */
    private int whyNot(int square, int block) {
        int k = block / TURNS;
        if (now.leftOf(k) <= 0) {
            return 1;
        }
        if (!meetsNeighbours(square, block)) {
            return 2;
        }
        if (!keepsRim(square, block)) {
            return 3;
        }
        return now.squaresOfHue(told, told.hues[k]) >= told.most ? 4 : 0;
    }

    private boolean meetsNeighbours(int square, int block) {
        for (int hand = 0; hand < HANDS; hand++) {
            int beside = told.beside(square, hand);
            if (beside >= 0 && beside < SQUARES && !now.isOpen(beside)
                    && told.edgeOf(now.blocks[beside], opposite(hand)) != told.edgeOf(block, hand)) {
                return false;
            }
        }
        return true;
    }

    private boolean keepsRim(int square, int block) {
        if (told.rim == NONE) {
            return true;
        }
        for (int hand = 0; hand < HANDS; hand++) {
            if (told.beside(square, hand) < 0 && told.edgeOf(block, hand) != told.rim) {
                return false;
            }
        }
        return true;
    }

    /** How many quilts a layout leaves, most at most; the last of these is the finder's latest. */
    private int quiltsOf(Layout layout, int most) {
        winnow.begin(told, layout);
        winnow.settle(told, layout);
        return finder.find(told, layout, winnow.sets, most);
    }

    /** Of the squares that seemed the same so far, those that a quilt with another block at s leaves so. */
    private int sameWithAnotherAt(int s, int same) {
        winnow.begin(told, now);
        winnow.sets[s] &= ~(1 << firstQuilt[s]);
        winnow.settle(told, now);
        if (finder.find(told, now, winnow.sets, 1) < 1) {
            return same;
        }
        int still = same;
        for (int i = 0; i < SQUARES; i++) {
            if (finder.latest[i] != firstQuilt[i]) {
                still &= ~(1 << i);
            }
        }
        return still;
    }

    /** The i-th lowest bit of a set of blocks. */
    private static int bitAt(int set, int i) {
        int before = 0;
        for (int block = 0; block < BLOCKS; block++) {
            if ((set >> block & 1) == 1) {
                if (before == i) {
                    return block;
                }
                before++;
            }
        }
        return NONE;
    }

    private static int opposite(int hand) {
        return (hand + 2) % HANDS;
    }

    /** All that a text tells. */
    private static final class Told {
        int kinds;
        int width;
        int height;
        int rim;
        int most;
        int side;
        int border;
        final int[] edges = new int[KINDS * HANDS];
        final int[] hues = new int[KINDS];
        final int[] stocks = new int[KINDS];
        /** Which plain blocks (bits) have an edge on a hand: at EDGES times the hand, and the edge. */
        final int[] having = new int[HANDS * EDGES];

        Told() {
            startAnew();
        }

        void startAnew() {
            kinds = 0;
            width = 2;
            height = 2;
            rim = NONE;
            most = 9;
            side = 4;
            border = 1;
        }

        int squares() {
            return Math.min(width * height, SQUARES);
        }

        int edgeOf(int block, int hand) {
            if (block < 0 || block >= BLOCKS || hand < 0 || hand >= HANDS) {
                return NONE;
            }
            int turn = block % TURNS;
            return edges[block / TURNS * HANDS + (hand + HANDS - turn) % HANDS];
        }

        boolean isPlain(int block) {
            for (int lesser = block - block % TURNS; lesser < block; lesser++) {
                if (looksLike(lesser, block)) {
                    return false;
                }
            }
            return true;
        }

        boolean looksLike(int one, int other) {
            for (int hand = 0; hand < HANDS; hand++) {
                if (edgeOf(one, hand) != edgeOf(other, hand)) {
                    return false;
                }
            }
            return true;
        }

        void settleBlocks() {
            Arrays.fill(having, 0);
            for (int block = 0; block < kinds * TURNS; block++) {
                if (isPlain(block)) {
                    for (int hand = 0; hand < HANDS; hand++) {
                        having[EDGES * hand + edgeOf(block, hand)] |= 1 << block;
                    }
                }
            }
        }

        /** The plain blocks (bits) that have an edge on a hand. */
        int plainWith(int hand, int edge) {
            if (hand < 0 || hand >= HANDS || edge < 0 || edge >= EDGES) {
                return 0;
            }
            return having[EDGES * hand + edge];
        }

        /** The square on a hand of a square; NONE: the quilt's side is there. */
        int beside(int square, int hand) {
            if (width < 1) {
                return NONE;
            }
            int x = square % width;
            int y = square / width;
            switch (hand) {
                case TOP:
                    return y > 0 ? square - width : NONE;
                case RIGHT:
                    return x < width - 1 ? square + 1 : NONE;
                case BOTTOM:
                    return y < height - 1 ? square + width : NONE;
                default:
                    return x > 0 ? square - 1 : NONE;
            }
        }

        boolean isFirstOfHue(int k) {
            for (int earlier = 0; earlier < k; earlier++) {
                if (hues[earlier] == hues[k]) {
                    return false;
                }
            }
            return true;
        }

        int hueCount() {
            int found = 0;
            for (int k = 0; k < kinds; k++) {
                if (isFirstOfHue(k)) {
                    found++;
                }
            }
            return found;
        }

        int hueAt(int i) {
            int before = 0;
            for (int k = 0; k < kinds; k++) {
                if (isFirstOfHue(k)) {
                    if (before == i) {
                        return hues[k];
                    }
                    before++;
                }
            }
            return NONE;
        }

        int kindsOfHue(int which) {
            int found = 0;
            for (int k = 0; k < kinds; k++) {
                if (hues[k] == which) {
                    found++;
                }
            }
            return found;
        }
    }

    /** Reads a text, token by token. */
    private static final class Reader {
        private static final int END = -1;
        private static final int NUMBER = -2;
        private static final int OTHER = -3;
        private static final int[] KIND_HIGHEST = {9, 9, 9, 9, 5, 9};

        private int place;
        private int tokenPlace;
        private int token;
        private int number;
        private boolean toldWidth;
        private boolean toldRim;
        private boolean toldMost;
        private boolean toldSide;

        /** How many items were read; -10 less the place of the fault. */
        int readInto(Told into, int[] letters, int length) {
            startAnew(into);
            int end = Math.min(length, letters.length);
            int items = 0;
            readToken(letters, end);
            while (token != END && items <= LETTERS) {
                if (!readItem(into, letters, end)) {
                    return REFUSED - tokenPlace;
                }
                items++;
                readToken(letters, end);
            }
            return items;
        }

        private void startAnew(Told into) {
            into.startAnew();
            place = 0;
            toldWidth = false;
            toldRim = false;
            toldMost = false;
            toldSide = false;
        }

        /** Whether an item stands here; if not, the token is the one that can't stand there. */
        private boolean readItem(Told into, int[] letters, int end) {
            int letter = token;
            if (!mayStart(into, letter)) {
                return false;
            }
            int k = into.kinds;
            for (int i = 0; i < numbersOf(letter); i++) {
                readToken(letters, end);
                if (token != NUMBER || number < lowestOf(letter) || number > highestOf(letter, i)) {
                    return false;
                }
                put(into, letter, k, i);
            }
            readToken(letters, end);
            if (token != ';') {
                return false;
            }
            if (letter == 'k') {
                into.kinds = k + 1;
            }
            return true;
        }

        private boolean mayStart(Told into, int letter) {
            boolean may;
            switch (letter) {
                case 'k':
                    may = into.kinds < KINDS;
                    break;
                case 'w':
                    may = !toldWidth;
                    toldWidth = true;
                    break;
                case 'e':
                    may = !toldRim;
                    toldRim = true;
                    break;
                case 'm':
                    may = !toldMost;
                    toldMost = true;
                    break;
                case 's':
                    may = !toldSide;
                    toldSide = true;
                    break;
                default:
                    may = false;
            }
            return may;
        }

        private static int numbersOf(int letter) {
            switch (letter) {
                case 'k':
                    return KIND_HIGHEST.length;
                case 'w':
                case 's':
                    return 2;
                default:
                    return 1;
            }
        }

        private static int lowestOf(int letter) {
            return letter == 'k' || letter == 'e' ? 0 : 1;
        }

        private static int highestOf(int letter, int i) {
            switch (letter) {
                case 'k':
                    return i >= 0 && i < KIND_HIGHEST.length ? KIND_HIGHEST[i] : -1;
                case 'w':
                    return i == 0 ? 3 : 2;
                case 's':
                    return i == 0 ? 9 : 4;
                default:
                    return 9;
            }
        }

        private void put(Told into, int letter, int k, int i) {
            switch (letter) {
                case 'k':
                    putKind(into, k, i);
                    break;
                case 'w':
                    if (i == 0) {
                        into.width = number;
                    } else {
                        into.height = number;
                    }
                    break;
                case 'e':
                    into.rim = number;
                    break;
                case 'm':
                    into.most = number;
                    break;
                default:
                    if (i == 0) {
                        into.side = number;
                    } else {
                        into.border = number;
                    }
            }
        }

        private void putKind(Told into, int k, int i) {
            if (k < 0 || k >= KINDS || i < 0) {
                return;
            }
            if (i < HANDS) {
                into.edges[k * HANDS + i] = number;
            } else if (i == HANDS) {
                into.hues[k] = number;
            } else {
                into.stocks[k] = number;
            }
        }

        private void readToken(int[] letters, int end) {
            while (place < end && letters[place] == ' ') {
                place++;
            }
            tokenPlace = place;
            if (place >= end) {
                token = END;
                return;
            }
            int letter = letters[place];
            if (isFigure(letter)) {
                readNumber(letters, end);
                return;
            }
            place++;
            token = isSign(letter) ? letter : OTHER;
        }

        private void readNumber(int[] letters, int end) {
            number = 0;
            while (place < end && isFigure(letters[place])) {
                // Beyond 99 no figure can mend it, and the number must not run over.
                number = Math.min(number * 10 + letters[place] - '0', 100);
                place++;
            }
            boolean zeroAhead = place - tokenPlace > 1 && letters[tokenPlace] == '0';
            token = number > 99 || zeroAhead ? OTHER : NUMBER;
        }

        private static boolean isFigure(int letter) {
            return letter >= '0' && letter <= '9';
        }

        private static boolean isSign(int letter) {
            return letter == 'k' || letter == 'w' || letter == 'e' || letter == 'm' || letter == 's' || letter == ';';
        }
    }

    /** What squares have, and stocks: all that is done, undone and kept. */
    private static final class Layout {
        final int[] blocks = new int[SQUARES];
        final int[] stocks = new int[KINDS];

        Layout() {
            openAll();
        }

        void begin(Told told) {
            openAll();
            System.arraycopy(told.stocks, 0, stocks, 0, KINDS);
        }

        void become(Layout other) {
            System.arraycopy(other.blocks, 0, blocks, 0, SQUARES);
            System.arraycopy(other.stocks, 0, stocks, 0, KINDS);
        }

        void openAll() {
            Arrays.fill(blocks, NONE);
        }

        boolean isOpen(int square) {
            return square >= 0 && square < SQUARES && blocks[square] == NONE;
        }

        /** Stock of a kind less the squares that have it; below 0 if too little was told anew. */
        int leftOf(int k) {
            if (k < 0 || k >= KINDS) {
                return 0;
            }
            int has = 0;
            for (int s = 0; s < SQUARES; s++) {
                if (blocks[s] >= 0 && blocks[s] / TURNS == k) {
                    has++;
                }
            }
            return stocks[k] - has;
        }

        int squaresOfHue(Told told, int which) {
            int found = 0;
            for (int s = 0; s < SQUARES; s++) {
                int k = blocks[s] / TURNS;
                if (blocks[s] >= 0 && k < KINDS && told.hues[k] == which) {
                    found++;
                }
            }
            return found;
        }
    }

    /** For each open square the blocks (bits) that are left. */
    private static final class Winnow {
        final int[] sets = new int[SQUARES];

        /** All plain blocks that fit. */
        void begin(Told told, Layout layout) {
            int toHave = blocksToHave(told, layout);
            for (int s = 0; s < SQUARES; s++) {
                boolean open = s < told.squares() && layout.isOpen(s);
                sets[s] = open ? toHave & meetingAround(told, layout, s) : 0;
            }
        }

        /** Takes out, again and again, what meets nothing on some hand. */
        void settle(Told told, Layout layout) {
            boolean changed = true;
            // Each round but the last takes out one block or more.
            for (int round = 0; changed && round <= SQUARES * BLOCKS; round++) {
                changed = false;
                for (int s = 0; s < told.squares(); s++) {
                    if (layout.isOpen(s)) {
                        int still = sets[s] & supported(told, layout, s);
                        changed = changed || still != sets[s];
                        sets[s] = still;
                    }
                }
            }
        }

        /** The blocks of which there are some left and whose hue is not there too often. */
        private static int blocksToHave(Told told, Layout layout) {
            int blocks = 0;
            for (int k = 0; k < told.kinds; k++) {
                if (layout.leftOf(k) > 0 && layout.squaresOfHue(told, told.hues[k]) < told.most) {
                    blocks |= 15 << k * TURNS;
                }
            }
            return blocks;
        }

        /** The plain blocks that meet the blocks laid around a square, and the rim. */
        private static int meetingAround(Told told, Layout layout, int s) {
            int blocks = 0;
            for (int edge = 0; edge < EDGES; edge++) {
                blocks |= told.plainWith(TOP, edge);
            }
            for (int hand = 0; hand < HANDS; hand++) {
                int beside = told.beside(s, hand);
                if (beside < 0 || beside >= SQUARES) {
                    blocks &= told.rim == NONE ? blocks : told.plainWith(hand, told.rim);
                } else if (!layout.isOpen(beside)) {
                    blocks &= told.plainWith(hand, told.edgeOf(layout.blocks[beside], opposite(hand)));
                }
            }
            return blocks;
        }

        /** The blocks that meet, on each hand with an open square, one that is still there. */
        private int supported(Told told, Layout layout, int s) {
            int blocks = sets[s];
            for (int hand = 0; hand < HANDS; hand++) {
                int beside = told.beside(s, hand);
                if (beside >= 0 && beside < SQUARES && layout.isOpen(beside)) {
                    blocks &= meetingOneOf(told, sets[beside], hand);
                }
            }
            return blocks;
        }

        private static int meetingOneOf(Told told, int others, int hand) {
            int blocks = 0;
            for (int edge = 0; edge < EDGES; edge++) {
                if ((others & told.plainWith(opposite(hand), edge)) != 0) {
                    blocks |= told.plainWith(hand, edge);
                }
            }
            return blocks;
        }
    }

    /** Finds quilts in order, square by square. */
    private static final class Finder {
        /** The quilt that was found last. */
        final int[] latest = new int[SQUARES];
        private final int[] trial = new int[SQUARES];
        private final boolean[] given = new boolean[SQUARES];
        private final int[] choice = new int[SQUARES];
        private final int[] kindRoom = new int[KINDS];
        private final int[] hueRoom = new int[HUES];
        private int squares;
        private int found;
        private int limit;

        /** How many quilts there are of the blocks left for each square, most at most. */
        int find(Told told, Layout layout, int[] sets, int most) {
            squares = told.squares();
            int toGive = 0;
            for (int s = 0; s < SQUARES; s++) {
                trial[s] = layout.blocks[s];
                given[s] = s < squares && layout.isOpen(s);
                choice[s] = s < sets.length ? sets[s] : 0;
                toGive += given[s] ? 1 : 0;
            }
            for (int k = 0; k < KINDS; k++) {
                kindRoom[k] = k < told.kinds ? layout.leftOf(k) : 0;
            }
            for (int h = 0; h < HUES; h++) {
                hueRoom[h] = told.most - layout.squaresOfHue(told, h);
            }
            found = 0;
            limit = most;
            // Each block laid takes one of the room and one of the need, so one look ahead is enough.
            if (roomInAll(told) >= toGive) {
                giveFrom(told, 0);
            }
            return found;
        }

        /** At most six squares deep. */
        private void giveFrom(Told told, int s) {
            if (s < 0 || s >= squares || s >= SQUARES) {
                found++;
                System.arraycopy(trial, 0, latest, 0, SQUARES);
                return;
            }
            if (!given[s]) {
                giveFrom(told, s + 1);
                return;
            }
            int blocks = meetingEarlier(told, s);
            for (int block = 0; block < BLOCKS && found < limit; block++) {
                if ((blocks >> block & 1) == 1) {
                    tryBlock(told, s, block);
                }
            }
        }

        private void tryBlock(Told told, int s, int block) {
            int k = block / TURNS;
            if (k < 0 || k >= KINDS || kindRoom[k] <= 0) {
                return;
            }
            int h = told.hues[k];
            if (h < 0 || h >= HUES || hueRoom[h] <= 0) {
                return;
            }
            trial[s] = block;
            kindRoom[k]--;
            hueRoom[h]--;
            giveFrom(told, s + 1);
            hueRoom[h]++;
            kindRoom[k]++;
        }

        /** How many squares could be given blocks if no edge had to meet. */
        private int roomInAll(Told told) {
            int room = 0;
            for (int h = 0; h < HUES; h++) {
                int ofHue = 0;
                for (int k = 0; k < told.kinds; k++) {
                    ofHue += told.hues[k] == h ? Math.max(kindRoom[k], 0) : 0;
                }
                room += Math.max(Math.min(ofHue, hueRoom[h]), 0);
            }
            return room;
        }

        /** The blocks for a square that meet those above and to the left, which are given by now. */
        private int meetingEarlier(Told told, int s) {
            int blocks = choice[s];
            int above = told.beside(s, TOP);
            if (above >= 0 && above < SQUARES) {
                blocks &= told.plainWith(TOP, told.edgeOf(trial[above], BOTTOM));
            }
            int before = told.beside(s, LEFT_HAND);
            if (before >= 0 && before < SQUARES) {
                blocks &= told.plainWith(LEFT_HAND, told.edgeOf(trial[before], RIGHT));
            }
            return blocks;
        }
    }

    /** Pieces, and how rectangles are best cut into them. */
    private static final class Cloth {
        static final int CELLS = (LONGEST + 1) * (LONGEST + 1);

        final int[] lesser = new int[PIECES];
        final int[] greater = new int[PIECES];
        final int[] used = new int[CELLS];
        final int[] cuts = new int[CELLS];
        final int[] gives = new int[PIECES * CELLS];
        private boolean known;

        static int at(int a, int b) {
            return a * (LONGEST + 1) + b;
        }

        void measure(Told told) {
            lesser[0] = told.side;
            greater[0] = told.side;
            lesser[1] = told.border;
            greater[1] = told.width * told.side + 2 * told.border;
            lesser[2] = told.border;
            greater[2] = told.height * told.side + 2 * told.border;
            known = false;
        }

        /** Works out all rectangles, once for what was told. */
        void know() {
            if (known) {
                return;
            }
            for (int a = 1; a <= LONGEST; a++) {
                for (int b = 1; b <= LONGEST; b++) {
                    workOut(a, b);
                }
            }
            known = true;
        }

        private void workOut(int a, int b) {
            int cell = at(a, b);
            for (int piece = 0; piece < PIECES; piece++) {
                gives[piece * CELLS + cell] = 0;
            }
            int whole = pieceLike(a, b);
            if (whole >= 0) {
                used[cell] = a * b;
                cuts[cell] = 1 + whole;
                gives[whole * CELLS + cell] = 1;
                return;
            }
            used[cell] = 0;
            cuts[cell] = 0;
            // A cut beyond the half has its mirror before it, so the first best one is never there.
            for (int x = 1; x <= a / 2; x++) {
                tryCut(cell, 100 + x, at(x, b), at(a - x, b));
            }
            for (int y = 1; y <= b / 2; y++) {
                tryCut(cell, 200 + y, at(a, y), at(a, b - y));
            }
        }

        private void tryCut(int cell, int how, int one, int other) {
            int together = used[one] + used[other];
            if (together <= used[cell]) {
                return;
            }
            used[cell] = together;
            cuts[cell] = how;
            for (int piece = 0; piece < PIECES; piece++) {
                int from = piece * CELLS;
                gives[from + cell] = gives[from + one] + gives[from + other];
            }
        }

        /** The lowest piece that a rectangle is, either way about; NONE. */
        private int pieceLike(int a, int b) {
            int small = Math.min(a, b);
            int great = Math.max(a, b);
            for (int piece = 0; piece < PIECES; piece++) {
                if (lesser[piece] == small && greater[piece] == great) {
                    return piece;
                }
            }
            return NONE;
        }
    }
}
