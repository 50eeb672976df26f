/**
 * All that an object answers, written down, so that two objects can be told apart.
 * Fewer than 300 calls in all: with what made the object that is still within the 512 that count.
 */
final class Seen {
    private static final int MOST_KINDS = 6;
    private static final int MOST_SQUARES = 6;

    private Seen() {
    }

    /** Squares and stocks: what is done, undone and kept. */
    static String layout(QuiltPatches x) {
        StringBuilder s = new StringBuilder("squares");
        for (int square = 0; square < MOST_SQUARES; square++) {
            s.append(' ').append(x.square(square));
        }
        s.append(" stocks");
        for (int k = 0; k < MOST_KINDS; k++) {
            s.append(' ').append(x.kind(k, 5));
        }
        return s.append('\n').toString();
    }

    /** What can be asked without a change. */
    static String now(QuiltPatches x) {
        StringBuilder s = new StringBuilder("counts");
        for (int what = 0; what <= 10; what++) {
            s.append(' ').append(x.count(what));
        }
        s.append(" kinds");
        for (int k = 0; k < MOST_KINDS; k++) {
            for (int what = 0; what <= 4; what++) {
                s.append(' ').append(x.kind(k, what));
            }
        }
        s.append(" quilts ").append(x.many(300)).append(' ').append(x.sure()).append(' ').append(x.next());
        s.append(" cloth ").append(x.piece(0, 1)).append(' ').append(x.piece(1, 1)).append(' ').append(x.piece(2, 1));
        s.append(' ').append(x.made(24, 24, 0)).append('\n');
        return s.append(layout(x)).toString();
    }

    /** What there is now, what comes back by undo() and back(), and what the text tells; the object is used up by it. */
    static String all(QuiltPatches x) {
        StringBuilder s = new StringBuilder(now(x));
        for (int i = 0; i <= 10; i++) {
            s.append("undo ").append(x.undo()).append(' ').append(layout(x));
        }
        for (int image = 0; image < 2; image++) {
            s.append("back ").append(x.back(image)).append(' ').append(layout(x));
        }
        s.append("tells ").append(x.tells()).append(' ').append(now(x));
        return s.toString();
    }
}
