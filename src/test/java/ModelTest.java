import java.util.Random;

/** Random runs of calls, each answer compared with the slow and plain model's (promises 1 to 27). */
public final class ModelTest {
    private static final String[] NAMES = {"type", "clear", "tells", "kind", "block", "lays", "takes", "buys", "clears",
        "undo", "square", "fits", "left", "hue", "many", "quilt", "sure", "next", "wanting", "piece", "good", "cut",
        "made", "keep", "back", "count"};
    private static final int RUNS = 3000;
    private static final int[] asked = new int[NAMES.length];

    public static void main(String[] args) {
        Due due = new Due();
        for (int seed = 1; seed <= RUNS && due.wrongs() < 20; seed++) {
            run(due, seed);
        }
        for (int i = 0; i < NAMES.length; i++) {
            due.holds(NAMES[i] + " was asked for", asked[i] > 0);
        }
        due.end("ModelTest");
    }

    private static void run(Due due, int seed) {
        Random random = new Random(seed);
        QuiltPatches x = new QuiltPatches();
        Model y = new Model();
        int calls = 0;
        int layingOneIn = 2 + random.nextInt(30);
        while (calls < 512) {
            if (calls == 0 || random.nextInt(150) == 0) {
                String text = text(random);
                // Two calls stay for tells() and clear(): what comes behind the 512th is free.
                for (int i = 0; i < text.length() && calls < 510; i++, calls++) {
                    compare(due, seed, x, y, 0, text.charAt(i), 0, 0);
                }
                compare(due, seed, x, y, 2, 0, 0, 0);
                calls++;
                if (y.count(8) > 0 && calls < 512) {
                    compare(due, seed, x, y, 1, 0, 0, 0);
                    calls++;
                }
                continue;
            }
            int which = random.nextInt(200) == 0 ? random.nextInt(3) : 3 + random.nextInt(NAMES.length - 3);
            if (random.nextInt(layingOneIn) == 0) {
                which = 5;
            }
            int a = argument(random, which, y);
            int b = second(random, which, y);
            compare(due, seed, x, y, which, a, b, random.nextInt(5) - 1);
            calls++;
        }
    }

    /** Most are as told, some just beyond, few far beyond. */
    private static int near(Random random, int below) {
        int dice = random.nextInt(60);
        if (dice == 0) {
            return random.nextInt();
        }
        if (dice == 1) {
            return -1;
        }
        if (dice == 2) {
            return Math.max(below, 0);
        }
        return random.nextInt(Math.max(below, 1));
    }

    private static int argument(Random random, int which, Model y) {
        switch (NAMES[which]) {
            case "type": return near(random, 256);
            case "kind": case "buys": case "wanting": return near(random, y.count(0));
            case "block": return near(random, 4 * y.count(0));
            case "lays": case "takes": case "square": case "fits": case "left":
                return near(random, y.count(1) * y.count(2));
            case "hue": return near(random, y.count(10));
            case "many": return 1 + near(random, 300);
            case "quilt": return near(random, random.nextBoolean() ? 300 : 12);
            case "piece": return near(random, 3);
            case "good": case "cut": case "made": return 1 + near(random, 24);
            case "keep": case "back": return near(random, 2);
            default: return near(random, 11);
        }
    }

    private static int second(Random random, int which, Model y) {
        switch (NAMES[which]) {
            case "kind": return near(random, 7);
            case "block": return near(random, 5);
            case "lays": case "fits": return near(random, 4 * y.count(0));
            case "buys": return near(random, 10);
            case "left": return near(random, 8) - 1;
            case "hue": return near(random, 3);
            case "quilt": return near(random, y.count(1) * y.count(2));
            case "piece": return near(random, 2);
            default: return 1 + near(random, 24);
        }
    }

    private static String text(Random random) {
        StringBuilder s = new StringBuilder();
        int colours = 1 + random.nextInt(random.nextInt(8) == 0 ? 10 : 3);
        int shift = random.nextInt(11 - colours);
        boolean scarce = random.nextBoolean();
        int kinds = random.nextInt(10) == 0 ? 0 : 1 + random.nextInt(6);
        int wAt = random.nextInt(10);
        int rimAt = random.nextInt(20);
        int mostAt = random.nextInt(10);
        int sideAt = random.nextInt(10);
        for (int k = 0; k < 7; k++) {
            if (k < kinds) {
                s.append('k').append(gap(random));
                for (int e = 0; e < 4; e++) {
                    s.append(shift + random.nextInt(colours)).append(' ');
                }
                s.append(random.nextInt(random.nextBoolean() ? 6 : 2)).append(' ');
                s.append(random.nextInt(scarce ? 3 : 10)).append(gap(random)).append(';');
            }
            if (wAt == k) s.append("w").append(1 + random.nextInt(3)).append(' ').append(1 + random.nextInt(2)).append(';');
            if (rimAt == k) s.append("e").append(gap(random)).append(shift + random.nextInt(colours)).append(';');
            if (mostAt == k) s.append("m").append(1 + random.nextInt(random.nextBoolean() ? 3 : 9)).append(';');
            if (sideAt == k) s.append("s").append(1 + random.nextInt(9)).append(' ').append(1 + random.nextInt(4)).append(';');
        }
        int faults = random.nextInt(4) == 0 ? 1 + random.nextInt(2) : 0;
        for (int f = 0; f < faults; f++) {
            spoil(random, s);
        }
        return s.toString();
    }

    private static String gap(Random random) {
        return random.nextInt(5) == 0 ? " " : "";
    }

    private static void spoil(Random random, StringBuilder s) {
        String letters = "kwems;; 00123456789K\t:/" + (char) 0 + (char) 255;
        char c = letters.charAt(random.nextInt(letters.length()));
        int at = random.nextInt(s.length() + 1);
        int how = random.nextInt(3);
        if (how == 0 || at == s.length()) {
            s.insert(at, c);
        } else if (how == 1) {
            s.setCharAt(at, c);
        } else {
            s.deleteCharAt(at);
        }
    }

    private static void compare(Due due, int seed, QuiltPatches x, Model y, int which, int a, int b, int c) {
        int want = ask(y, which, a, b, c);
        int got = ask(x, which, a, b, c);
        asked[which]++;
        due.is("seed " + seed + ": " + NAMES[which] + "(" + a + ", " + b + ", " + c + ")", got, want);
    }

    private static int ask(QuiltPatches x, int which, int a, int b, int c) {
        switch (NAMES[which]) {
            case "type": return x.type(a);
            case "clear": return x.clear();
            case "tells": return x.tells();
            case "kind": return x.kind(a, b);
            case "block": return x.block(a, b);
            case "lays": return x.lays(a, b);
            case "takes": return x.takes(a);
            case "buys": return x.buys(a, b);
            case "clears": return x.clears();
            case "undo": return x.undo();
            case "square": return x.square(a);
            case "fits": return x.fits(a, b);
            case "left": return x.left(a, b);
            case "hue": return x.hue(a, b);
            case "many": return x.many(a);
            case "quilt": return x.quilt(a, b);
            case "sure": return x.sure();
            case "next": return x.next();
            case "wanting": return x.wanting(a);
            case "piece": return x.piece(a, b);
            case "good": return x.good(a, b);
            case "cut": return x.cut(a, b);
            case "made": return x.made(a, b, c);
            case "keep": return x.keep(a);
            case "back": return x.back(a);
            default: return x.count(a);
        }
    }

    private static int ask(Model y, int which, int a, int b, int c) {
        switch (NAMES[which]) {
            case "type": return y.type(a);
            case "clear": return y.clear();
            case "tells": return y.tells();
            case "kind": return y.kind(a, b);
            case "block": return y.block(a, b);
            case "lays": return y.lays(a, b);
            case "takes": return y.takes(a);
            case "buys": return y.buys(a, b);
            case "clears": return y.clears();
            case "undo": return y.undo();
            case "square": return y.square(a);
            case "fits": return y.fits(a, b);
            case "left": return y.left(a, b);
            case "hue": return y.hue(a, b);
            case "many": return y.many(a);
            case "quilt": return y.quilt(a, b);
            case "sure": return y.sure();
            case "next": return y.next();
            case "wanting": return y.wanting(a);
            case "piece": return y.piece(a, b);
            case "good": return y.good(a, b);
            case "cut": return y.cut(a, b);
            case "made": return y.made(a, b, c);
            case "keep": return y.keep(a);
            case "back": return y.back(a);
            default: return y.count(a);
        }
    }
}
