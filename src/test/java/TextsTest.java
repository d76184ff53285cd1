/** Promises 24 to 27: the pad, its fault, and its orders. */
public final class TextsTest {
    private static final Due DUE = new Due("TextsTest");

    public static void main(String[] args) {
        put();
        putBadCharacters();
        putTooMany();
        wipe();
        faultsOfWholeTexts();
        faultsOfPrefixes();
        everyCharacterEverywhere();
        carryOut();
        carryOutEachOrder();
        carryOutUpToAnError();
        carryOutWithAFault();
        carryOutIsOneChange();
        DUE.end();
    }

    private static void put() {
        ChangeFeed feed = new ChangeFeed();
        DUE.is("24: one", feed.put('p'), 1);
        DUE.is("24: eight", feed.put(Due.packed("1=2;x1;t")), 9);
        DUE.is("24: three", feed.put(Due.packed("9;h")), 12);
        DUE.is("24: length", feed.count(11), 12);
        DUE.is("24: in their order", feed.fault(), ChangeFeed.NONE);
        DUE.is("24: no change", feed.count(12), 0);
        ChangeFeed edges = new ChangeFeed();
        DUE.is("24: 33", edges.put(33), 1);
        DUE.is("24: 126", edges.put(126), 2);
        DUE.is("24: eight of 126", edges.put(0x7e7e7e7e7e7e7e7eL), 10);
    }

    private static void putBadCharacters() {
        ChangeFeed feed = new ChangeFeed();
        feed.put('h');
        long[] bad = {0, 32, 127, 128, 255, -1, Long.MIN_VALUE, Long.MAX_VALUE, 0x6800, 0x680068, 0x6868006868L,
            0x2068, 0x6820, 0x7f68, 0x687f, 0x6868686868686800L, 0x2068686868686868L, 0x8068686868686868L,
            0x0100000000000068L, 0x8000000000000068L, 0x0068686868680068L, 0x6800686868686868L, 0x10068};
        for (long wrong : bad) {
            DUE.is("24: characters " + Long.toHexString(wrong), feed.put(wrong), ChangeFeed.BAD_VALUE);
        }
        DUE.is("24: the pad stays", feed.count(11), 1);
    }

    private static void putTooMany() {
        ChangeFeed feed = new ChangeFeed();
        for (int i = 1; i <= 9; i++) {
            DUE.is("24: filling", feed.put(Due.packed("h;h;h;h;")), 8 * i);
        }
        feed.put('h');
        DUE.is("24: 81 characters", feed.put(Due.packed(";h;h;h;h")), ChangeFeed.TOO_MANY);
        DUE.is("24: the pad stays", feed.count(11), 73);
        DUE.is("24: 80 characters", feed.put(Due.packed(";h;h;h;")), 80);
        DUE.is("24: one more", feed.put('h'), ChangeFeed.TOO_MANY);
        DUE.is("24: bad ahead of too many", feed.put(1), ChangeFeed.BAD_VALUE);
        DUE.is("26: a full pad that ends too early", feed.fault(), 80);
    }

    private static void wipe() {
        ChangeFeed feed = new ChangeFeed();
        DUE.is("25: empty", feed.wipe(), 0);
        feed.put(Due.packed("qqq"));
        DUE.is("25: three", feed.wipe(), 3);
        DUE.is("25: empty then", feed.count(11), 0);
        DUE.is("25: no change", feed.count(12), 0);
        DUE.is("25: nothing is left", feed.put('h') + feed.fault(), 1 + ChangeFeed.NONE);
    }

    private static void faultsOfWholeTexts() {
        String[] good = {"h", "n", "s", "h;n;s", "p0=0", "p999=999", "p10=100", "x0", "x999", "t0", "t999", "r0*0",
            "r5*999", "c0", "c5", "b0", "b5", "l0@0", "l5@9", "p1=2;x3;t4;h;n;r0*5;c0;b0;s;l0@1"};
        for (String text : good) {
            DUE.is("26: " + text, Due.faultOf(text), ChangeFeed.NONE);
        }
        String[] bad = {"q", "H", "1", ";", "hh", "h;;", "h,", "p=", "p1;", "p01=", "p00", "p1234", "p1=1234", "p1=01",
            "p1=00", "p1==", "p1=;", "x;", "xh", "x01", "x1000", "x1=", "t-", "t00", "t1000", "h1", "n0", "s0",
            "r6", "r9", "r*", "r0;", "r0*;", "r00", "r0*01", "r0*1000", "c6", "c;", "c00", "c5*", "b6", "b;", "b05",
            "l6", "l0*", "l0@;", "l0@x", "l0@00", "l0@10", "h;q", "h;p1=2;q", "p1=2,"};
        int[] at = {0, 0, 0, 0, 1, 2, 1, 1, 2, 2, 2, 4, 6, 4,
            4, 3, 3, 1, 1, 2, 4, 2, 1, 2, 4, 1, 1, 1,
            1, 1, 1, 2, 3, 2, 4, 6, 1, 1, 2, 2, 1, 1, 2,
            1, 2, 3, 3, 4, 4, 2, 7, 4};
        DUE.is("26: rows of the test", bad.length, at.length);
        for (int i = 0; i < bad.length && i < at.length; i++) {
            DUE.is("26: " + bad[i], Due.faultOf(bad[i]), at[i]);
        }
    }

    private static void faultsOfPrefixes() {
        String[] early = {"", "p", "p1", "p999", "p1=", "x", "t", "r", "r0", "r0*", "c", "b", "l", "l0", "l0@", "h;",
            "p1=2;", "p1=2;x"};
        for (String text : early) {
            DUE.is("26: too early: " + text, Due.faultOf(text), text.length());
        }
    }

    /** What can stand behind each beginning, told as the document tells it. */
    private static void everyCharacterEverywhere() {
        String digits = "0123456789";
        String[] beginnings = {"", "h", "h;", "p", "p0", "p1", "p12", "p123", "p1=", "p1=0", "p1=9", "p1=98", "p1=987",
            "x", "x0", "x1", "x10", "x100", "t", "t0", "t5", "n", "s", "r", "r5", "r5*", "r5*0", "r5*5", "r5*55",
            "r5*555", "c", "c0", "b", "b0", "l", "l0", "l0@", "l0@9"};
        String[] next = {"pxthnrcbsl", ";", "pxthnrcbsl", digits, "=", "=" + digits, "=" + digits, "=", digits, ";",
            ";" + digits, ";" + digits, ";", digits, ";", ";" + digits, ";" + digits, ";", digits, ";", ";" + digits,
            ";", ";", "012345", "*", digits, ";", ";" + digits, ";" + digits, ";", "012345", ";", "012345", ";",
            "012345", "@", digits, ";"};
        DUE.is("26: rows of the test", beginnings.length, next.length);
        for (int i = 0; i < beginnings.length; i++) {
            for (char sign = 33; sign <= 126; sign++) {
                boolean faultIsThere = Due.faultOf(beginnings[i] + sign) == beginnings[i].length();
                DUE.holds("26: " + beginnings[i] + " and " + sign, faultIsThere == (next[i].indexOf(sign) < 0));
            }
        }
    }

    private static void carryOut() {
        ChangeFeed feed = new ChangeFeed();
        DUE.is("27: in a row", Due.carriedOut(feed, "n;p3=7;p4=8;x4;r0*2;c0;r0*1;b0;t9;s;l0@0;h"), 12);
        DUE.is("27: the pad is empty", feed.count(11), 0);
        DUE.is("27: the table", feed.table(3), 7);
        DUE.is("27: the key that went", feed.table(4), ChangeFeed.NONE);
        DUE.is("27: the minute", feed.count(3), 9);
        DUE.is("27: read so far", feed.ofReader(0, 4), 3);
        DUE.is("27: place", feed.ofReader(0, 1), 3);
        DUE.is("27: snapshots", feed.count(8), 1);
        DUE.is("27: one change", feed.count(12), 1);
        DUE.is("27: forty orders", Due.carriedOut(feed, "h;".repeat(39) + "h"), 40);
        DUE.is("27: again one change", feed.count(12), 2);
    }

    private static void carryOutEachOrder() {
        ChangeFeed feed = new ChangeFeed();
        DUE.is("27: n", Due.carriedOut(feed, "n"), 1);
        DUE.is("27: n comes", feed.count(6), 1);
        DUE.is("27: p", Due.carriedOut(feed, "p11=999"), 1);
        DUE.is("27: p sets", feed.table(11), 999);
        DUE.is("27: r", Due.carriedOut(feed, "r0*99"), 1);
        DUE.is("27: r reads", feed.view(0, 11), 999);
        DUE.is("27: b", Due.carriedOut(feed, "b0"), 1);
        DUE.is("27: b goes back", feed.view(0, 11), ChangeFeed.NONE);
        feed.read(0, 1);
        DUE.is("27: c", Due.carriedOut(feed, "c0"), 1);
        DUE.is("27: c confirms", feed.ofReader(0, 1), 1);
        DUE.is("27: s", Due.carriedOut(feed, "s"), 1);
        DUE.is("27: s keeps", feed.ofSnapshot(0, 0), 1);
        DUE.is("27: x", Due.carriedOut(feed, "x11"), 1);
        DUE.is("27: x removes", feed.table(11), ChangeFeed.NONE);
        feed.read(0, 1);
        DUE.is("27: l", Due.carriedOut(feed, "l0@0"), 1);
        DUE.is("27: l loads", feed.view(0, 11), 999);
        DUE.is("27: t", Due.carriedOut(feed, "t31"), 1);
        DUE.is("27: t passes", feed.count(3), 31);
        feed.turn(ChangeFeed.SIZE, 1);
        DUE.is("27: h", Due.carriedOut(feed, "h"), 1);
        DUE.is("27: h thins", feed.count(0), 0);
    }

    private static void carryOutUpToAnError() {
        String[] failing = {"p12=0", "p999=1", "x12", "x5", "t0", "r0*0", "r0*100", "r1*1", "c1", "b5", "l0@0", "l1@0"};
        for (String order : failing) {
            ChangeFeed feed = new ChangeFeed();
            feed.reader();
            DUE.is("27: " + order, Due.carriedOut(feed, "p0=1;" + order + ";p0=2"), 1);
            DUE.is("27: what stood before it", feed.table(0), 1);
            DUE.is("27: the pad is empty", feed.count(11), 0);
            DUE.is("27: a change", feed.count(12), 2);
            DUE.is("27: none carried out: " + order, Due.carriedOut(feed, order), 0);
            DUE.is("27: a change all the same", feed.count(12), 3);
            DUE.is("27: empty all the same", feed.count(11), 0);
        }
        ChangeFeed feed = new ChangeFeed();
        DUE.is("27: the seventh reader", Due.carriedOut(feed, "n;n;n;n;n;n;n;n"), 6);
        feed.turn(ChangeFeed.SIZE, 1);
        feed.turn(ChangeFeed.GRACE, 0);
        DUE.is("27: a late reader", Due.carriedOut(feed, "p0=1;p1=1;r0*1;x0;t1;h;r0*1;p2=2"), 6);
        DUE.is("27: nothing behind it", feed.table(2), ChangeFeed.NONE);
    }

    private static void carryOutWithAFault() {
        ChangeFeed feed = new ChangeFeed();
        DUE.is("27: an empty pad", feed.carryOut(), ChangeFeed.BAD_TEXT);
        DUE.is("27: a fault", Due.carriedOut(feed, "p0=1;p0"), ChangeFeed.BAD_TEXT);
        DUE.is("27: the pad stays", feed.count(11), 7);
        DUE.is("27: nothing is set", feed.table(0), ChangeFeed.NONE);
        DUE.is("27: no change", feed.count(12), 0);
        feed.put(Due.packed("=2"));
        DUE.is("27: mended", feed.carryOut(), 2);
        DUE.is("27: set", feed.table(0), 2);
    }

    private static void carryOutIsOneChange() {
        ChangeFeed feed = new ChangeFeed();
        feed.set(0, 5);
        Due.carriedOut(feed, "p0=6;p1=7;n;t5");
        feed.put('h');
        DUE.is("27: undone at once", feed.undo(), 1);
        DUE.is("27: table", feed.table(0), 5);
        DUE.is("27: key", feed.table(1), ChangeFeed.NONE);
        DUE.is("27: readers", feed.count(6), 0);
        DUE.is("27: minute", feed.count(3), 0);
        DUE.is("28: the pad stays", feed.count(11), 1);
    }
}
