/** Compares answers with the ones that are due, and tells the wrong ones. */
final class Due {
    private final String test;
    private int right = 0;
    private int wrong = 0;

    Due(String test) {
        this.test = test;
    }

    void is(String what, long got, long want) {
        if (got == want) {
            right++;
            return;
        }
        wrong++;
        if (wrong <= 20) {
            System.out.println(test + ": " + what + " answered " + got + ", due is " + want);
        }
    }

    void holds(String what, boolean holds) {
        is(what, holds ? 1 : 0, 1);
    }

    void end() {
        System.out.println(test + ": " + right + " answers right, " + wrong + " wrong");
        if (wrong != 0 || right == 0) {
            System.exit(1);
        }
    }

    /** Up to eight characters as put() takes them. */
    static long packed(String characters) {
        long packed = 0;
        for (int i = 0; i < characters.length(); i++) {
            packed = packed << 8 | characters.charAt(i);
        }
        return packed;
    }

    static void write(ChangeFeed feed, String text) {
        for (int i = 0; i < text.length(); i += 8) {
            feed.put(packed(text.substring(i, Math.min(i + 8, text.length()))));
        }
    }

    static int faultOf(String text) {
        ChangeFeed feed = new ChangeFeed();
        write(feed, text);
        return feed.fault();
    }

    static int carriedOut(ChangeFeed feed, String text) {
        feed.wipe();
        write(feed, text);
        return feed.carryOut();
    }

    static int[] wrongNumbers(int... more) {
        int[] wrong = new int[more.length + 3];
        wrong[0] = -1;
        wrong[1] = Integer.MIN_VALUE;
        wrong[2] = Integer.MAX_VALUE;
        System.arraycopy(more, 0, wrong, 3, more.length);
        return wrong;
    }
}
