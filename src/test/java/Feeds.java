/** Feeds to begin a test with, texts for their pads, and what can be told of them. */
final class Feeds {
    private Feeds() {
    }

    /** Sixty entries: the keys 0 to 11 in turn are set to 0 to 59. */
    static ChangeFeed full() {
        ChangeFeed feed = new ChangeFeed();
        for (int i = 0; i < 60; i++) {
            feed.set(i % 12, i);
        }
        return feed;
    }

    static ChangeFeed withReader() {
        ChangeFeed feed = new ChangeFeed();
        feed.reader();
        return feed;
    }

    /** Every segment of which all entries are told is closed, and a removal is told for its own minute alone. */
    static ChangeFeed quickToThin() {
        ChangeFeed feed = new ChangeFeed();
        feed.turn(ChangeFeed.SIZE, 1);
        feed.turn(ChangeFeed.GRACE, 0);
        return feed;
    }

    /** The floor is 3, the entry 1 is left, and the reader 0 is late at the place 1, which is confirmed. */
    static ChangeFeed withLateReader() {
        ChangeFeed feed = quickToThin();
        feed.reader();
        feed.set(0, 10);
        feed.set(1, 11);
        feed.read(0, 1);
        feed.confirm(0);
        feed.remove(0);
        feed.pass(1);
        feed.thin();
        return feed;
    }

    /** Some of everything, so that each change shows. */
    static ChangeFeed started() {
        ChangeFeed feed = new ChangeFeed();
        feed.turn(ChangeFeed.SIZE, 2);
        feed.turn(ChangeFeed.GRACE, 3);
        feed.reader();
        feed.set(0, 1);
        feed.set(0, 2);
        feed.snapshot();
        feed.set(1, 1);
        feed.remove(1);
        feed.pass(4);
        feed.set(2, 1);
        feed.read(0, 2);
        return feed;
    }

    static final int CHANGES = 14;

    /** Each way to change what started() gives; the answer is the call's. */
    static int change(ChangeFeed feed, int which) {
        switch (which) {
            case 0: return feed.turn(ChangeFeed.SIZE, 9);
            case 1: return feed.turn(ChangeFeed.GRACE, 9);
            case 2: return feed.set(3, 3);
            case 3: return feed.remove(0);
            case 4: return feed.pass(9);
            case 5: return feed.thin();
            case 6: return feed.snapshot();
            case 7: return feed.reader();
            case 8: return feed.read(0, 1);
            case 9: return feed.confirm(0);
            case 10: return feed.goBack(0);
            case 11: return feed.beginAnew(0);
            case 12: return feed.load(0, 0);
            default: return carriedOut(feed, "p0=9;x0;n;r1*2;c1;s;t9;h");
        }
    }

    /** All that the queries tell of what undo and the slots bring back. */
    static String told(ChangeFeed feed) {
        StringBuilder told = new StringBuilder();
        for (int what = 0; what <= 10; what++) {
            told.append(feed.count(what)).append(' ');
        }
        for (int key = 0; key < 12; key++) {
            told.append(feed.table(key)).append(' ');
        }
        for (int i = 0; i < feed.count(0); i++) {
            for (int what = 0; what < 6; what++) {
                told.append(feed.entry(i, what)).append(' ');
            }
        }
        for (int i = 0; i < feed.count(6); i++) {
            for (int what = 0; what < 7; what++) {
                told.append(feed.ofReader(i, what)).append(' ');
            }
            for (int key = 0; key < 12; key++) {
                told.append(feed.view(i, key)).append(' ');
            }
        }
        for (int i = 0; i < feed.count(8); i++) {
            for (int what = 0; what < 3; what++) {
                told.append(feed.ofSnapshot(i, what)).append(' ');
            }
        }
        return told.toString();
    }

    /** That, and the length and the fault of the pad, and how many changes can be undone. */
    static String everything(ChangeFeed feed) {
        return told(feed) + feed.count(11) + ' ' + feed.fault() + ' ' + feed.count(12);
    }

    /** Up to eight characters as put() takes them. */
    static long packed(String characters) {
        long packed = 0;
        for (int i = 0; i < characters.length(); i++) {
            packed = packed << 8 | characters.charAt(i);
        }
        return packed;
    }

    static void write(ChangeFeed feed, String text) {
        for (int i = 0; i < text.length(); i += 8) {
            feed.put(packed(text.substring(i, Math.min(i + 8, text.length()))));
        }
    }

    static int faultOf(String text) {
        ChangeFeed feed = new ChangeFeed();
        write(feed, text);
        return feed.fault();
    }

    static int carriedOut(ChangeFeed feed, String text) {
        feed.wipe();
        write(feed, text);
        return feed.carryOut();
    }

    /** Numbers that no range of the document holds, and some more. */
    static int[] wrongNumbers(int... more) {
        int[] always = {-1, ChangeFeed.NONE, Integer.MIN_VALUE, Integer.MAX_VALUE, Integer.MIN_VALUE + 1,
            1 << 16, 1 << 30};
        int[] wrong = new int[more.length + always.length];
        System.arraycopy(more, 0, wrong, 0, more.length);
        System.arraycopy(always, 0, wrong, more.length, always.length);
        return wrong;
    }
}
