/** Promises 24 to 27, sentence by sentence: the pad, its fault, and its orders. */
public final class TextsTest {
    private static final Due DUE = new Due("TextsTest");

    public static void main(String[] args) {
        put();
        wipe();
        fault();
        carryOut();
        DUE.end();
    }

    private static void putRefuses(ChangeFeed feed, long... wrong) {
        for (long characters : wrong) {
            DUE.refuses(Long.toHexString(characters), feed, () -> feed.put(characters), ChangeFeed.BAD_VALUE);
        }
    }

    private static void put() {
        Section put = new Section(DUE, "Promise 24: put");
        put.says("Appends characters to the pad.", () -> {
            ChangeFeed feed = new ChangeFeed();
            feed.put('p');
            feed.put(Feeds.packed("1=2"));
            feed.put(Feeds.packed(";x1;t9;h"));
            DUE.is("the length", feed.count(11), 12);
            DUE.is("in their order", feed.carryOut(), 4);
            DUE.is("each at its place", feed.count(3), 9);
            DUE.is("an order that is cut in two", feed.count(0), 2);
        });
        put.says("They are given as a number: its lowest 8 bits are the last character", () -> {
            ChangeFeed feed = new ChangeFeed();
            feed.put('x' << 8 | '7');
            DUE.is("x, then 7", feed.fault(), ChangeFeed.NONE);
            feed.wipe();
            feed.put('7' << 8 | 'x');
            DUE.is("7 first", feed.fault(), 0);
            DUE.is("the code of h", new ChangeFeed().put(104), 1);
        });
        put.says(", the next 8 bits the one before, and so on;", () -> {
            ChangeFeed feed = new ChangeFeed();
            feed.put((long) 'p' << 48 | (long) '1' << 40 | (long) '1' << 32 | '=' << 24 | '9' << 16 | '8' << 8 | '7');
            feed.carryOut();
            DUE.is("seven characters", feed.table(11), 987);
            feed.put((long) 'n' << 56 | (long) ';' << 48 | (long) 'r' << 40 | (long) '0' << 32
                | '*' << 24 | '9' << 16 | ';' << 8 | 's');
            DUE.is("eight characters", feed.carryOut(), 3);
            DUE.is("what they ask for", feed.ofReader(0, 4), 1);
        });
        put.says("8 bits that are 0 mean that there are no more characters", () -> {
            for (int many = 1; many <= 8; many++) {
                DUE.is(many + " characters", new ChangeFeed().put(Feeds.packed("h;h;h;h;".substring(0, many))), many);
            }
        });
        put.says(", and everything above them has to be 0, too.", () -> {
            ChangeFeed feed = new ChangeFeed();
            putRefuses(feed, 0x680068L, 0x6868006868L, 0x6800686868686868L, 0x10068L, 0x0100000000000068L,
                0x6800000000000068L, 0x8000000000000068L, 0x0068686868680068L);
        });
        put.says("`characters`: 1 to 8 characters", () -> {
            DUE.is("the fewest", new ChangeFeed().put('h'), 1);
            DUE.is("the most", new ChangeFeed().put(Feeds.packed("h;n;s;h;")), 8);
        });
        put.says("Returns the length of the pad then", () -> {
            ChangeFeed feed = new ChangeFeed();
            DUE.is("one", feed.put('q'), 1);
            DUE.is("eight more", feed.put(Feeds.packed("qqqqqqqq")), 9);
            DUE.is("three more", feed.put(Feeds.packed("qqq")), 12);
            feed.wipe();
            DUE.is("one of an emptied pad", feed.put('q'), 1);
            DUE.is("it is no change", feed.count(12), 0);
        });
        put.says("BAD_VALUE if there is no character", () -> {
            ChangeFeed feed = new ChangeFeed();
            feed.put('h');
            putRefuses(feed, 0);
        });
        put.says(", a code is not 33 to 126", () -> {
            ChangeFeed feed = new ChangeFeed();
            putRefuses(feed, 1, 10, 31, 32, 127, 128, 160, 255, 0x2068, 0x6820, 0x7f68, 0x687f, 0x016868, 0x680168,
                0x2068686868686868L, 0x7f68686868686868L, 0x8068686868686868L, 0xff68686868686868L,
                0x6868686868686820L, 0x68686868686868ffL, -1, Long.MAX_VALUE, 0x6868686820686868L);
            DUE.is("33", feed.put(33), 1);
            DUE.is("126", feed.put(126), 2);
            DUE.is("eight of 126", feed.put(0x7e7e7e7e7e7e7e7eL), 10);
            DUE.is("eight of 33", feed.put(0x2121212121212121L), 18);
            for (int code = 33; code <= 126; code++) {
                DUE.is("code " + code, new ChangeFeed().put(code), 1);
            }
        });
        put.says(", or a bit above 8 bits that are 0 is not 0", () -> {
            ChangeFeed feed = new ChangeFeed();
            feed.put('h');
            putRefuses(feed, 0x100, 0x6800, 0x686800, 0x6868686868686800L, Long.MIN_VALUE);
            for (int bit = 16; bit < 64; bit++) {
                putRefuses(feed, 'h' | 1L << bit);
            }
        });
        put.says("TOO_MANY if the pad would be longer than 80.", () -> {
            ChangeFeed feed = new ChangeFeed();
            Feeds.write(feed, "h;".repeat(36) + "h");
            DUE.refuses("81", feed, () -> feed.put(Feeds.packed(";h;h;h;h")), ChangeFeed.TOO_MANY);
            DUE.is("80", feed.put(Feeds.packed(";h;h;h;")), 80);
            DUE.refuses("one more", feed, () -> feed.put('h'), ChangeFeed.TOO_MANY);
            putRefuses(feed, 0, 1, 0x680068, 0xff68686868686868L);
        });
        put.end();
    }

    private static void wipe() {
        Section wipe = new Section(DUE, "Promise 25: wipe");
        wipe.says("Empties the pad", () -> {
            ChangeFeed feed = Feeds.started();
            Feeds.write(feed, "qqq");
            String before = Feeds.told(feed);
            int undos = feed.count(12);
            feed.wipe();
            DUE.is("its length", feed.count(11), 0);
            DUE.is("its fault", feed.fault(), 0);
            feed.put('h');
            DUE.is("nothing of it is left", feed.fault(), ChangeFeed.NONE);
            DUE.holds("nothing else changes", Feeds.told(feed).equals(before));
            DUE.is("it is no change", feed.count(12), undos);
        });
        wipe.says(", and returns the length that it had.", () -> {
            ChangeFeed feed = new ChangeFeed();
            DUE.is("empty", feed.wipe(), 0);
            feed.put(Feeds.packed("qqq"));
            DUE.is("three", feed.wipe(), 3);
            DUE.is("empty again", feed.wipe(), 0);
            Feeds.write(feed, "h;".repeat(40));
            DUE.is("full", feed.wipe(), 80);
        });
        wipe.end();
    }

    private static void fault() {
        Section fault = new Section(DUE, "Promise 26: fault");
        fault.says("Returns the fault of the pad", () -> {
            ChangeFeed feed = new ChangeFeed();
            Feeds.write(feed, "h;p1=2;xx");
            DUE.onlyTells("the second x", feed, feed::fault, 8);
            DUE.is("the first character", Feeds.faultOf("q"), 0);
            DUE.is("the last of eighty", Feeds.faultOf("h;".repeat(39) + "hh"), 79);
            DUE.is("eighty, which end too early", Feeds.faultOf("h;".repeat(40)), 80);
        });
        fault.says(", NONE if there is none.", () -> {
            ChangeFeed feed = new ChangeFeed();
            Feeds.write(feed, "h;p1=2;x1");
            DUE.onlyTells("three orders", feed, feed::fault, ChangeFeed.NONE);
            DUE.is("one character", Feeds.faultOf("h"), ChangeFeed.NONE);
            DUE.is("eighty", Feeds.faultOf("h;".repeat(38) + "r0*1"), ChangeFeed.NONE);
            DUE.is("forty orders", Feeds.faultOf("h;".repeat(39) + "h"), ChangeFeed.NONE);
        });
        fault.end();
    }

    private static void carryOut() {
        Section carryOut = new Section(DUE, "Promise 27: carryOut");
        carryOut.says("Carries the orders of the pad out, one after the other", () -> {
            ChangeFeed feed = new ChangeFeed();
            Feeds.write(feed, "n;p3=7;p4=8;x4;r0*2;c0;r0*1;b0;t9;s;p3=6");
            feed.carryOut();
            DUE.is("the table", feed.table(3), 6);
            DUE.is("the key that was removed", feed.table(4), ChangeFeed.NONE);
            DUE.is("the minute", feed.count(3), 9);
            DUE.is("the minute of the removal", feed.entry(2, 3), 0);
            DUE.is("the minute of the last entry", feed.entry(3, 3), 9);
            DUE.is("entries read", feed.ofReader(0, 4), 3);
            DUE.is("the place that was confirmed", feed.ofReader(0, 0), 2);
            DUE.is("the snapshot's number", feed.ofSnapshot(0, 0), 3);
        });
        carryOut.says(", up to the first one that returns an error", () -> {
            String[] failing = {"p12=0", "p999=1", "x12", "x5", "t0", "r0*0", "r0*100", "r1*1", "c1", "b5", "l0@0",
                "l1@0"};
            for (String order : failing) {
                ChangeFeed feed = Feeds.withReader();
                Feeds.carriedOut(feed, "p0=1;" + order + ";p0=2");
                DUE.is("what stands before " + order, feed.table(0), 1);
                DUE.is("nothing behind it", feed.count(0), 1);
            }
            ChangeFeed late = Feeds.withLateReader();
            DUE.is("a late reader", Feeds.carriedOut(late, "p5=5;r0*1;p6=6"), 1);
            DUE.is("nothing behind it", late.table(6), ChangeFeed.NONE);
            ChangeFeed full = Feeds.full();
            DUE.is("a full feed", Feeds.carriedOut(full, "n;p0=1;n"), 1);
            DUE.is("no second reader", full.count(6), 1);
            DUE.is("the seventh reader", Feeds.carriedOut(new ChangeFeed(), "n;n;n;n;n;n;n;n"), 6);
        });
        carryOut.says(", and empties the pad.", () -> {
            ChangeFeed feed = new ChangeFeed();
            Feeds.write(feed, "p0=1;h");
            feed.carryOut();
            DUE.is("behind all orders", feed.count(11), 0);
            Feeds.write(feed, "p0=1;x1;h");
            feed.carryOut();
            DUE.is("behind an error", feed.count(11), 0);
            Feeds.write(feed, "x1");
            feed.carryOut();
            DUE.is("behind none", feed.count(11), 0);
            DUE.is("they are not carried out again", feed.carryOut(), ChangeFeed.BAD_TEXT);
        });
        carryOut.says("This is a change (one, with all of them;", () -> {
            ChangeFeed feed = Feeds.withReader();
            feed.set(0, 5);
            DUE.isAChange("four orders", feed, () -> Feeds.carriedOut(feed, "p0=6;p1=7;n;t5"));
            DUE.isAChange("one order", feed, () -> Feeds.carriedOut(feed, "h"));
            DUE.isAChange("two, and an error", feed, () -> Feeds.carriedOut(feed, "p0=6;n;x9;n"));
            Feeds.carriedOut(feed, "h;".repeat(39) + "h");
            DUE.is("forty orders", feed.count(12), 3);
        });
        carryOut.says("also if none is carried out).", () -> {
            ChangeFeed feed = Feeds.withReader();
            DUE.isAChange("an error at once", feed, () -> Feeds.carriedOut(feed, "x0;n"));
        });
        carryOut.says("Returns how many orders were carried out", () -> {
            ChangeFeed feed = Feeds.withReader();
            DUE.is("one", Feeds.carriedOut(feed, "h"), 1);
            DUE.is("three", Feeds.carriedOut(feed, "h;s;t1"), 3);
            DUE.is("forty", Feeds.carriedOut(feed, "h;".repeat(39) + "h"), 40);
            DUE.is("two, and an error", Feeds.carriedOut(feed, "h;s;x0;h"), 2);
            DUE.is("an error at once", Feeds.carriedOut(feed, "x0;h"), 0);
            DUE.is("one that reads nothing", Feeds.carriedOut(feed, "r0*1;b0"), 2);
        });
        carryOut.says("BAD_TEXT if the pad has a fault", () -> {
            ChangeFeed empty = new ChangeFeed();
            DUE.refuses("an empty pad", empty, empty::carryOut, ChangeFeed.BAD_TEXT);
            for (String text : new String[] {"q", "h;", "p0=1;p0", "p0=1;h;q", "p1=1000", "h;".repeat(40)}) {
                ChangeFeed feed = new ChangeFeed();
                Feeds.write(feed, text);
                DUE.refuses(text, feed, feed::carryOut, ChangeFeed.BAD_TEXT);
            }
        });
        carryOut.says("(then it stays).", () -> {
            ChangeFeed feed = new ChangeFeed();
            Feeds.write(feed, "p0=1;p0");
            feed.carryOut();
            DUE.is("its length", feed.count(11), 7);
            feed.put(Feeds.packed("=2"));
            DUE.is("mended", feed.carryOut(), 2);
            DUE.is("what it asks for", feed.table(0), 2);
        });
        carryOut.end();
    }
}
