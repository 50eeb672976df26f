/** Compares answers with what is due, and ends a test. */
final class Due {
    private int right;
    private int wrong;

    void is(String call, int got, int want) {
        if (got == want) {
            right++;
        } else {
            wrong++;
            System.out.println(call + " answered " + got + ", due is " + want);
        }
    }

    void holds(String what, boolean so) {
        is(what, so ? 1 : 0, 1);
    }

    void same(String what, String got, String want) {
        if (got.equals(want)) {
            right++;
        } else {
            wrong++;
            System.out.println(what + ": got\n" + got + "\ndue is\n" + want);
        }
    }

    int wrongs() {
        return wrong;
    }

    void end(String name) {
        System.out.println(name + ": " + right + " answers as due, " + wrong + " not");
        if (wrong != 0 || right == 0) {
            System.exit(1);
        }
    }

    static void type(QuiltPatches x, String text) {
        for (int i = 0; i < text.length(); i++) {
            x.type(text.charAt(i));
        }
    }

    /** A new object that was told a text without a fault. */
    static QuiltPatches told(String text) {
        QuiltPatches x = new QuiltPatches();
        type(x, text);
        int items = x.tells();
        if (items < 0) {
            throw new IllegalStateException("the test's own text has a fault: " + text + " " + items);
        }
        return x;
    }
}
