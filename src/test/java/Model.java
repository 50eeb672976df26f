import java.util.ArrayDeque;
import java.util.ArrayList;
import java.util.Arrays;
import java.util.Deque;
import java.util.HashMap;
import java.util.List;
import java.util.Map;
import java.util.TreeSet;
import java.util.regex.Matcher;
import java.util.regex.Pattern;

/** The document once more, as slowly and plainly as can be, to compare the class with. */
final class Model {
    static final int BAD = -1, STATE = -2, FULL = -3, NONE = -9;
    private static final Pattern TOKEN = Pattern.compile(" *([0-9]+|[^ 0-9])", Pattern.DOTALL);
    private static final int[] DY = {-1, 0, 1, 0};
    private static final int[] DX = {0, 1, 0, -1};

    private static final class State {
        int[] block;
        int[] stock;

        State(int[] block, int[] stock) {
            this.block = block.clone();
            this.stock = stock.clone();
        }

        State copy() {
            return new State(block, stock);
        }
    }

    private static final class Fault extends Exception {
        private static final long serialVersionUID = 1L;
        final int place;

        Fault(int place) {
            this.place = place;
        }
    }

    private String text = "";
    private List<int[]> kinds = new ArrayList<>();
    private Map<Character, int[]> singles = defaults();
    private State state = new State(new int[] {NONE, NONE, NONE, NONE}, new int[0]);
    private final Deque<State> past = new ArrayDeque<>();
    private final State[] images = new State[2];
    private final Map<Integer, Integer> goods = new HashMap<>();
    /** Of each block its edges and whether it is plain: once for a text, as all quilts are walked one by one. */
    private int[][] turned = new int[0][];
    private boolean[] isPlain = new boolean[0];

    private static Map<Character, int[]> defaults() {
        Map<Character, int[]> map = new HashMap<>();
        map.put('w', new int[] {2, 2});
        map.put('e', new int[] {NONE});
        map.put('m', new int[] {9});
        map.put('s', new int[] {4, 1});
        return map;
    }

    private int width() {
        return singles.get('w')[0];
    }

    private int height() {
        return singles.get('w')[1];
    }

    private int squares() {
        return width() * height();
    }

    int type(int letter) {
        if (letter < 0 || letter > 255) return BAD;
        if (text.length() == 120) return FULL;
        text += (char) letter;
        return text.length();
    }

    int clear() {
        int n = text.length();
        text = "";
        return n;
    }

    int tells() {
        List<String> tokens = new ArrayList<>();
        List<Integer> places = new ArrayList<>();
        Matcher m = TOKEN.matcher(text);
        int from = 0;
        while (m.find(from)) {
            tokens.add(m.group(1));
            places.add(m.start(1));
            from = m.end();
        }
        places.add(text.length());
        List<int[]> newKinds = new ArrayList<>();
        Map<Character, int[]> newSingles = new HashMap<>();
        int at = 0;
        int items = 0;
        try {
            while (at < tokens.size()) {
                at = item(tokens, places, at, newKinds, newSingles);
                items++;
            }
        } catch (Fault f) {
            return -10 - f.place;
        }
        kinds = newKinds;
        singles = defaults();
        singles.putAll(newSingles);
        int[] block = new int[squares()];
        Arrays.fill(block, NONE);
        state = new State(block, kinds.stream().mapToInt(k -> k[5]).toArray());
        past.clear();
        images[0] = null;
        images[1] = null;
        goods.clear();
        turnBlocks();
        text = "";
        return items;
    }

    private static int item(List<String> tokens, List<Integer> places, int start, List<int[]> newKinds,
            Map<Character, int[]> newSingles) throws Fault {
        String[] ranges;
        String letter = tokens.get(start);
        switch (letter) {
            case "k": ranges = "0-9 0-9 0-9 0-9 0-5 0-9".split(" "); break;
            case "w": ranges = "1-3 1-2".split(" "); break;
            case "e": ranges = "0-9".split(" "); break;
            case "m": ranges = "1-9".split(" "); break;
            case "s": ranges = "1-9 1-4".split(" "); break;
            default: throw new Fault(places.get(start));
        }
        char c = letter.charAt(0);
        if (c == 'k' ? newKinds.size() == 6 : newSingles.containsKey(c)) throw new Fault(places.get(start));
        int[] numbers = new int[ranges.length];
        int at = start + 1;
        for (int i = 0; i < ranges.length; i++, at++) {
            // Every number that may stand anywhere has one figure.
            if (at == tokens.size() || !tokens.get(at).matches("[" + ranges[i] + "]")) throw new Fault(places.get(at));
            numbers[i] = tokens.get(at).charAt(0) - '0';
        }
        if (at == tokens.size() || !tokens.get(at).equals(";")) throw new Fault(places.get(at));
        if (c == 'k') newKinds.add(numbers);
        else newSingles.put(c, numbers);
        return at + 1;
    }

    int kind(int k, int what) {
        if (k < 0 || k >= kinds.size() || what < 0 || what > 6) return BAD;
        if (what == 6) return 100 + leftOf(state, k);
        return what == 5 ? state.stock[k] : kinds.get(k)[what];
    }

    private int leftOf(State s, int k) {
        int left = s.stock[k];
        for (int b : s.block) if (b != NONE && b / 4 == k) left--;
        return left;
    }

    private void turnBlocks() {
        turned = new int[4 * kinds.size()][];
        isPlain = new boolean[4 * kinds.size()];
        for (int b = 0; b < turned.length; b++) {
            int[] e = Arrays.copyOf(kinds.get(b / 4), 4);
            for (int turn = 0; turn < b % 4; turn++) e = new int[] {e[3], e[0], e[1], e[2]};
            turned[b] = e;
            isPlain[b] = true;
            for (int lesser = b / 4 * 4; lesser < b; lesser++) isPlain[b] &= !Arrays.equals(turned[lesser], e);
        }
    }

    private int[] edges(int block) {
        return turned[block];
    }

    private boolean plain(int block) {
        return isPlain[block];
    }

    int block(int block, int what) {
        if (block < 0 || block >= 4 * kinds.size() || what < 0 || what > 4) return BAD;
        return what == 4 ? (plain(block) ? 1 : 0) : edges(block)[what];
    }

    private boolean badSquare(int s) {
        return s < 0 || s >= squares();
    }

    private boolean badBlock(int b) {
        return b < 0 || b >= 4 * kinds.size();
    }

    private int beside(int s, int hand) {
        int y = s / width() + DY[hand];
        int x = s % width() + DX[hand];
        return y < 0 || y >= height() || x < 0 || x >= width() ? -1 : y * width() + x;
    }

    private int why(State st, int s, int b) {
        if (leftOf(st, b / 4) <= 0) return 1;
        for (int hand = 0; hand < 4; hand++) {
            int n = beside(s, hand);
            if (n >= 0 && st.block[n] != NONE && edges(st.block[n])[(hand + 2) % 4] != edges(b)[hand]) return 2;
        }
        int rim = singles.get('e')[0];
        for (int hand = 0; hand < 4; hand++) {
            if (rim != NONE && beside(s, hand) < 0 && edges(b)[hand] != rim) return 3;
        }
        int same = 0;
        for (int o : st.block) if (o != NONE && kinds.get(o / 4)[4] == kinds.get(b / 4)[4]) same++;
        return same >= singles.get('m')[0] ? 4 : 0;
    }

    private void remember() {
        past.addLast(state.copy());
        if (past.size() > 10) past.removeFirst();
    }

    private int open() {
        int n = 0;
        for (int b : state.block) if (b == NONE) n++;
        return n;
    }

    int lays(int s, int b) {
        int why = fits(s, b);
        if (why < 0) return why;
        if (why > 0) return -10 - why;
        remember();
        state.block[s] = b;
        return open();
    }

    int takes(int s) {
        if (badSquare(s)) return BAD;
        if (state.block[s] == NONE) return STATE;
        remember();
        int b = state.block[s];
        state.block[s] = NONE;
        return b;
    }

    int buys(int k, int stock) {
        if (k < 0 || k >= kinds.size() || stock < 0 || stock > 9) return BAD;
        int was = state.stock[k];
        if (was == stock) return STATE;
        remember();
        state.stock[k] = stock;
        return was;
    }

    int clears() {
        remember();
        int had = squares() - open();
        Arrays.fill(state.block, NONE);
        return had;
    }

    int undo() {
        if (past.isEmpty()) return STATE;
        state = past.removeLast();
        return past.size();
    }

    int square(int s) {
        return badSquare(s) ? BAD : state.block[s];
    }

    int fits(int s, int b) {
        if (badSquare(s) || badBlock(b)) return BAD;
        return state.block[s] != NONE ? STATE : why(state, s, b);
    }

    private List<TreeSet<Integer>> winnowed() {
        List<TreeSet<Integer>> sets = new ArrayList<>();
        for (int s = 0; s < squares(); s++) {
            TreeSet<Integer> set = new TreeSet<>();
            for (int b = 0; state.block[s] == NONE && b < 4 * kinds.size(); b++) {
                if (plain(b) && why(state, s, b) == 0) set.add(b);
            }
            sets.add(set);
        }
        while (dropOne(sets)) { }
        return sets;
    }

    private boolean dropOne(List<TreeSet<Integer>> sets) {
        for (int s = squares() - 1; s >= 0; s--) {
            for (int b : sets.get(s)) {
                for (int hand = 0; hand < 4; hand++) {
                    int n = beside(s, hand);
                    if (n < 0 || state.block[n] != NONE) continue;
                    boolean met = false;
                    for (int o : sets.get(n)) met |= edges(o)[(hand + 2) % 4] == edges(b)[hand];
                    if (!met) {
                        sets.get(s).remove(b);
                        return true;
                    }
                }
            }
        }
        return false;
    }

    int left(int s, int i) {
        if (badSquare(s) || i < -1) return BAD;
        if (state.block[s] != NONE) return STATE;
        List<Integer> set = new ArrayList<>(winnowed().get(s));
        if (i == -1) return set.size();
        return i < set.size() ? set.get(i) : NONE;
    }

    int hue(int i, int what) {
        if (i < 0 || what < 0 || what > 2) return BAD;
        List<Integer> hues = hues();
        if (i >= hues.size()) return NONE;
        int h = hues.get(i);
        if (what == 0) return h;
        if (what == 1) return (int) kinds.stream().filter(k -> k[4] == h).count();
        return (int) Arrays.stream(state.block).filter(b -> b != NONE && kinds.get(b / 4)[4] == h).count();
    }

    private List<Integer> hues() {
        List<Integer> hues = new ArrayList<>();
        for (int[] k : kinds) if (!hues.contains(k[4])) hues.add(k[4]);
        return hues;
    }

    /** Takes the quilts as they come. */
    private interface Taker {
        /** Whether more are wanted; the blocks are the walk's own. */
        boolean take(int[] blocks);
    }

    /** Whether the taker wanted more to the end. */
    private boolean walk(State st, int s, Taker taker) {
        if (s == squares()) return taker.take(st.block);
        if (st.block[s] != NONE) return walk(st, s + 1, taker);
        for (int b = 0; b < 4 * kinds.size(); b++) {
            if (!plain(b) || why(st, s, b) != 0) continue;
            st.block[s] = b;
            boolean more = walk(st, s + 1, taker);
            st.block[s] = NONE;
            if (!more) return false;
        }
        return true;
    }

    /** The first quilts, limit at most. */
    private List<int[]> quilts(State from, int limit) {
        List<int[]> found = new ArrayList<>();
        walk(from.copy(), 0, blocks -> {
            found.add(blocks.clone());
            return found.size() < limit;
        });
        return found;
    }

    int many(int most) {
        return most < 1 || most > 300 ? BAD : quilts(state, most).size();
    }

    int quilt(int k, int s) {
        if (k < 0 || k > 299 || badSquare(s)) return BAD;
        List<int[]> all = quilts(state, k + 1);
        return k < all.size() ? all.get(k)[s] : NONE;
    }

    int sure() {
        List<int[]> first = quilts(state, 1);
        if (first.isEmpty()) return 0;
        boolean[] same = new boolean[squares()];
        for (int s = 0; s < squares(); s++) same[s] = state.block[s] == NONE;
        walk(state.copy(), 0, blocks -> {
            for (int s = 0; s < blocks.length; s++) same[s] &= blocks[s] == first.get(0)[s];
            return true;
        });
        int bits = 0;
        for (int s = 0; s < squares(); s++) if (same[s]) bits |= 1 << s;
        return bits;
    }

    int next() {
        List<TreeSet<Integer>> sets = winnowed();
        int best = NONE;
        for (int s = squares() - 1; s >= 0; s--) {
            if (state.block[s] == NONE && (best == NONE || sets.get(s).size() <= sets.get(best).size())) best = s;
        }
        return best;
    }

    int wanting(int k) {
        if (k < 0 || k >= kinds.size()) return BAD;
        for (int n = 0; n <= 9; n++) {
            State st = state.copy();
            st.stock[k] = n;
            if (!quilts(st, 1).isEmpty()) return n;
        }
        return NONE;
    }

    private int[] sides(int piece) {
        int side = singles.get('s')[0];
        int border = singles.get('s')[1];
        int[] two = piece == 0 ? new int[] {side, side}
                : new int[] {border, (piece == 1 ? width() : height()) * side + 2 * border};
        Arrays.sort(two);
        return two;
    }

    int piece(int piece, int what) {
        if (piece < 0 || piece > 2 || what < 0 || what > 1) return BAD;
        return sides(piece)[what];
    }

    private int pieceOf(int a, int b) {
        for (int p = 0; p < 3; p++) {
            int[] s = sides(p);
            if (a == s[0] && b == s[1] || a == s[1] && b == s[0]) return p;
        }
        return -1;
    }

    private static boolean badRectangle(int a, int b) {
        return a < 1 || a > 24 || b < 1 || b > 24;
    }

    int good(int a, int b) {
        if (badRectangle(a, b)) return BAD;
        Integer known = goods.get(100 * a + b);
        if (known != null) return known;
        int best = pieceOf(a, b) >= 0 ? a * b : 0;
        if (best == 0) {
            for (int x = 1; x < a; x++) best = Math.max(best, good(x, b) + good(a - x, b));
            for (int y = 1; y < b; y++) best = Math.max(best, good(a, y) + good(a, b - y));
        }
        goods.put(100 * a + b, best);
        return best;
    }

    int cut(int a, int b) {
        if (badRectangle(a, b)) return BAD;
        if (good(a, b) == 0) return 0;
        if (pieceOf(a, b) >= 0) return 1 + pieceOf(a, b);
        for (int x = 1; x < a; x++) if (good(x, b) + good(a - x, b) == good(a, b)) return 100 + x;
        for (int y = 1; y < b; y++) if (good(a, y) + good(a, b - y) == good(a, b)) return 200 + y;
        throw new IllegalStateException();
    }

    int made(int a, int b, int piece) {
        if (badRectangle(a, b) || piece < 0 || piece > 2) return BAD;
        int cut = cut(a, b);
        if (cut == 0) return 0;
        if (cut < 100) return cut - 1 == piece ? 1 : 0;
        if (cut < 200) return made(cut - 100, b, piece) + made(a - cut + 100, b, piece);
        return made(a, cut - 200, piece) + made(a, b - cut + 200, piece);
    }

    int keep(int image) {
        if (image < 0 || image > 1) return BAD;
        images[image] = state.copy();
        return open();
    }

    int back(int image) {
        if (image < 0 || image > 1) return BAD;
        if (images[image] == null) return STATE;
        state = images[image].copy();
        past.clear();
        return open();
    }

    int count(int what) {
        switch (what) {
            case 0: return kinds.size();
            case 1: return width();
            case 2: return height();
            case 3: return singles.get('e')[0];
            case 4: return singles.get('m')[0];
            case 5: return singles.get('s')[0];
            case 6: return singles.get('s')[1];
            case 7: return open();
            case 8: return text.length();
            case 9: return past.size();
            case 10: return hues().size();
            default: return BAD;
        }
    }
}
