/** Promises 1 to 7, sentence by sentence: a new object, and what changes the table. */
public final class TableTest {
    private static final Due DUE = new Due("TableTest");

    public static void main(String[] args) {
        newObject();
        turn();
        set();
        remove();
        pass();
        thin();
        snapshot();
        DUE.end();
    }

    private static void newObject() {
        Section made = new Section(DUE, "Promise 1: A new object");
        made.says("Creates an empty table", () -> {
            ChangeFeed feed = new ChangeFeed();
            for (int key = 0; key < 12; key++) {
                DUE.is("key " + key, feed.table(key), ChangeFeed.NONE);
            }
            DUE.is("keys with a value", feed.count(2), 0);
        });
        made.says("and an empty feed.", () -> {
            ChangeFeed feed = new ChangeFeed();
            int[] due = {0, 0, 0, 0, 0, 0, 0, 0, 0, 5, 30, 0, 0};
            for (int what = 0; what < due.length; what++) {
                DUE.is("count(" + what + ")", feed.count(what), due[what]);
            }
            DUE.is("no entry", feed.entry(0, 0), ChangeFeed.NO_SUCH);
            DUE.is("no reader", feed.ofReader(0, 0), ChangeFeed.NO_SUCH);
            DUE.is("no snapshot", feed.ofSnapshot(0, 0), ChangeFeed.NO_SUCH);
            DUE.is("nothing to undo", feed.undo(), ChangeFeed.NOT_POSSIBLE);
            DUE.is("nothing in slot 0", feed.restore(0), ChangeFeed.NOT_POSSIBLE);
            DUE.is("nothing in slot 1", feed.restore(1), ChangeFeed.NOT_POSSIBLE);
            DUE.is("an empty pad", feed.fault(), 0);
            ChangeFeed other = Feeds.started();
            other.save(0);
            other.put('h');
            DUE.holds("objects are apart", Feeds.everything(feed).equals(Feeds.everything(new ChangeFeed())));
            DUE.is("their slots, too", feed.restore(0), ChangeFeed.NOT_POSSIBLE);
        });
        made.end();
    }

    private static void turn() {
        Section turn = new Section(DUE, "Promise 2: turn");
        turn.says("Changes a setting.", () -> {
            ChangeFeed feed = new ChangeFeed();
            feed.turn(ChangeFeed.SIZE, 7);
            DUE.is("the size", feed.count(9), 7);
            DUE.is("the grace stays", feed.count(10), 30);
            feed.turn(ChangeFeed.GRACE, 8);
            DUE.is("the grace", feed.count(10), 8);
            DUE.is("the size stays", feed.count(9), 7);
        });
        turn.says("This is a change.", () -> {
            ChangeFeed feed = new ChangeFeed();
            DUE.isAChange("another size", feed, () -> feed.turn(ChangeFeed.SIZE, 9));
            DUE.isAChange("the same size", feed, () -> feed.turn(ChangeFeed.SIZE, 5));
            DUE.isAChange("the grace 0", feed, () -> feed.turn(ChangeFeed.GRACE, 0));
            feed.turn(ChangeFeed.GRACE, 0);
            DUE.isAChange("from the grace 0", feed, () -> feed.turn(ChangeFeed.GRACE, 1));
        });
        turn.says("Returns the previous value", () -> {
            ChangeFeed feed = new ChangeFeed();
            DUE.is("the first size", feed.turn(ChangeFeed.SIZE, 1), 5);
            DUE.is("the lowest size", feed.turn(ChangeFeed.SIZE, 20), 1);
            DUE.is("the highest size", feed.turn(ChangeFeed.SIZE, 20), 20);
            DUE.is("the first grace", feed.turn(ChangeFeed.GRACE, 0), 30);
            DUE.is("the lowest grace", feed.turn(ChangeFeed.GRACE, 999), 0);
            DUE.is("the highest grace", feed.turn(ChangeFeed.GRACE, 999), 999);
        });
        turn.says("BAD_VALUE if there is no such setting", () -> {
            ChangeFeed feed = new ChangeFeed();
            for (int wrong : Feeds.wrongNumbers(2, 3)) {
                DUE.refuses("setting " + wrong, feed, () -> feed.turn(wrong, 7), ChangeFeed.BAD_VALUE);
            }
        });
        turn.says("or the value is out of its range.", () -> {
            ChangeFeed feed = new ChangeFeed();
            for (int wrong : Feeds.wrongNumbers(0, 21, 999)) {
                DUE.refuses("size " + wrong, feed, () -> feed.turn(ChangeFeed.SIZE, wrong), ChangeFeed.BAD_VALUE);
            }
            for (int wrong : Feeds.wrongNumbers(1000)) {
                DUE.refuses("grace " + wrong, feed, () -> feed.turn(ChangeFeed.GRACE, wrong), ChangeFeed.BAD_VALUE);
            }
            DUE.is("a grace that would be no size", feed.turn(ChangeFeed.GRACE, 21), 30);
            DUE.is("another one", feed.turn(ChangeFeed.GRACE, 0), 21);
        });
        turn.end();
    }

    private static void set() {
        Section set = new Section(DUE, "Promise 3: set");
        set.says("Sets a key to a value", () -> {
            ChangeFeed feed = new ChangeFeed();
            for (int key = 0; key < 12; key++) {
                feed.set(key, 10 * key + 1);
                DUE.is("keys with a value", feed.count(2), key + 1);
            }
            feed.set(4, 7);
            for (int key = 0; key < 12; key++) {
                DUE.is("key " + key, feed.table(key), key == 4 ? 7 : 10 * key + 1);
            }
            DUE.is("no minute passes", feed.count(3), 0);
        });
        set.says("(also to the one that it has)", () -> {
            ChangeFeed feed = new ChangeFeed();
            feed.set(3, 8);
            DUE.is("again", feed.set(3, 8), 1);
            DUE.is("it has it", feed.table(3), 8);
            DUE.is("two entries", feed.count(0), 2);
            DUE.is("the second one's value", feed.entry(1, 2), 8);
        });
        set.says(", and an entry comes.", () -> {
            ChangeFeed feed = new ChangeFeed();
            feed.set(5, 50);
            feed.pass(7);
            feed.set(6, 60);
            DUE.is("two entries", feed.count(0), 2);
            DUE.is("its number", feed.entry(1, 0), 1);
            DUE.is("its key", feed.entry(1, 1), 6);
            DUE.is("its value", feed.entry(1, 2), 60);
            DUE.is("its minute", feed.entry(1, 3), 7);
            DUE.is("the one before it", feed.entry(0, 1), 5);
            DUE.is("no third one", feed.entry(2, 0), ChangeFeed.NO_SUCH);
        });
        set.says("This is a change.", () -> {
            ChangeFeed feed = new ChangeFeed();
            DUE.isAChange("the first entry", feed, () -> feed.set(0, 1));
            feed.set(0, 1);
            DUE.isAChange("the same value", feed, () -> feed.set(0, 1));
        });
        set.says("`value`: 0 to 999", () -> {
            ChangeFeed feed = new ChangeFeed();
            DUE.is("the lowest", feed.set(0, 0), 0);
            DUE.is("it is a value", feed.table(0), 0);
            DUE.is("the highest", feed.set(0, 999), 1);
            DUE.is("it is a value, too", feed.table(0), 999);
        });
        set.says("Returns the number of the entry", () -> {
            ChangeFeed feed = new ChangeFeed();
            feed.turn(ChangeFeed.SIZE, 1);
            for (int i = 0; i < 5; i++) {
                DUE.is("one after the other", feed.set(0, i), i);
            }
            feed.thin();
            DUE.is("on, though one entry is left", feed.set(0, 9), 5);
        });
        set.says("NO_SUCH if there is no such key", () -> {
            ChangeFeed feed = new ChangeFeed();
            ChangeFeed full = Feeds.full();
            for (int wrong : Feeds.wrongNumbers(12)) {
                DUE.refuses("key " + wrong, feed, () -> feed.set(wrong, 5), ChangeFeed.NO_SUCH);
                DUE.refuses("a bad value, too " + wrong, feed, () -> feed.set(wrong, -1), ChangeFeed.NO_SUCH);
                DUE.refuses("a full feed, too " + wrong, full, () -> full.set(wrong, 1000), ChangeFeed.NO_SUCH);
            }
        });
        set.says("BAD_VALUE if value is out of range", () -> {
            ChangeFeed feed = new ChangeFeed();
            ChangeFeed full = Feeds.full();
            for (int wrong : Feeds.wrongNumbers(1000)) {
                DUE.refuses("value " + wrong, feed, () -> feed.set(11, wrong), ChangeFeed.BAD_VALUE);
                DUE.refuses("a full feed, too " + wrong, full, () -> full.set(0, wrong), ChangeFeed.BAD_VALUE);
            }
        });
        set.says("TOO_MANY if there are 60 entries in the feed.", () -> {
            ChangeFeed feed = new ChangeFeed();
            for (int i = 0; i < 60; i++) {
                DUE.is("entry " + i, feed.set(0, i), i);
            }
            DUE.refuses("the 61st", feed, () -> feed.set(0, 5), ChangeFeed.TOO_MANY);
            DUE.refuses("of another key", feed, () -> feed.set(11, 0), ChangeFeed.TOO_MANY);
            DUE.is("thinned", feed.thin(), 59);
            DUE.is("on", feed.set(0, 1), 60);
        });
        set.end();
    }

    private static void remove() {
        Section remove = new Section(DUE, "Promise 4: remove");
        remove.says("Removes a key", () -> {
            ChangeFeed feed = new ChangeFeed();
            for (int key = 0; key < 12; key++) {
                feed.set(key, key);
            }
            for (int key = 0; key < 12; key += 11) {
                feed.remove(key);
                DUE.is("key " + key, feed.table(key), ChangeFeed.NONE);
            }
            DUE.is("keys with a value", feed.count(2), 10);
            DUE.is("another key", feed.table(1), 1);
            feed.set(0, 5);
            DUE.is("set again", feed.table(0), 5);
        });
        remove.says(", and an entry comes.", () -> {
            ChangeFeed feed = new ChangeFeed();
            feed.set(3, 30);
            feed.pass(4);
            feed.remove(3);
            DUE.is("two entries", feed.count(0), 2);
            DUE.is("its number", feed.entry(1, 0), 1);
            DUE.is("its key", feed.entry(1, 1), 3);
            DUE.is("no value", feed.entry(1, 2), ChangeFeed.NONE);
            DUE.is("its minute", feed.entry(1, 3), 4);
            DUE.is("the one before keeps its value", feed.entry(0, 2), 30);
        });
        remove.says("This is a change.", () -> {
            ChangeFeed feed = new ChangeFeed();
            feed.set(3, 30);
            DUE.isAChange("a removal", feed, () -> feed.remove(3));
        });
        remove.says("Returns the number of the entry", () -> {
            ChangeFeed feed = new ChangeFeed();
            feed.set(0, 1);
            feed.set(1, 1);
            DUE.is("behind two", feed.remove(0), 2);
            DUE.is("behind three", feed.remove(1), 3);
        });
        remove.says("NO_SUCH if there is no such key", () -> {
            ChangeFeed feed = new ChangeFeed();
            ChangeFeed full = Feeds.full();
            for (int wrong : Feeds.wrongNumbers(12)) {
                DUE.refuses("key " + wrong, feed, () -> feed.remove(wrong), ChangeFeed.NO_SUCH);
                DUE.refuses("a full feed, too " + wrong, full, () -> full.remove(wrong), ChangeFeed.NO_SUCH);
            }
        });
        remove.says("TOO_MANY if there are 60 entries in the feed", () -> {
            ChangeFeed feed = new ChangeFeed();
            for (int i = 0; i < 59; i++) {
                feed.set(i % 2, i);
            }
            DUE.is("the 60th", feed.remove(0), 59);
            DUE.refuses("the 61st", feed, () -> feed.remove(1), ChangeFeed.TOO_MANY);
            DUE.refuses("a key without a value, too", feed, () -> feed.remove(0), ChangeFeed.TOO_MANY);
            DUE.refuses("one that was never set, too", feed, () -> feed.remove(7), ChangeFeed.TOO_MANY);
            feed.thin();
            DUE.is("thinned", feed.remove(1), 60);
        });
        remove.says("NOT_POSSIBLE if the key has no value.", () -> {
            ChangeFeed feed = new ChangeFeed();
            DUE.refuses("never set", feed, () -> feed.remove(0), ChangeFeed.NOT_POSSIBLE);
            feed.set(0, 0);
            DUE.refuses("another one is set", feed, () -> feed.remove(11), ChangeFeed.NOT_POSSIBLE);
            DUE.is("0 is a value", feed.remove(0), 1);
            DUE.refuses("removed", feed, () -> feed.remove(0), ChangeFeed.NOT_POSSIBLE);
        });
        remove.end();
    }

    private static ChangeFeed nearTheLastMinute() {
        ChangeFeed feed = new ChangeFeed();
        for (int i = 0; i < 100; i++) {
            feed.pass(999);
        }
        return feed;
    }

    private static void pass() {
        Section pass = new Section(DUE, "Promise 5: pass");
        pass.says("Lets minutes pass.", () -> {
            ChangeFeed feed = new ChangeFeed();
            feed.set(0, 1);
            feed.pass(5);
            DUE.is("five", feed.count(3), 5);
            feed.pass(7);
            DUE.is("seven more", feed.count(3), 12);
            DUE.is("entries keep their minute", feed.entry(0, 3), 0);
            DUE.is("no entry comes", feed.count(0), 1);
        });
        pass.says("This is a change.", () -> {
            ChangeFeed feed = new ChangeFeed();
            DUE.isAChange("one minute", feed, () -> feed.pass(1));
        });
        pass.says("`minutes`: 1 to 999", () -> {
            DUE.is("the fewest", new ChangeFeed().pass(1), 1);
            DUE.is("the most", new ChangeFeed().pass(999), 999);
        });
        pass.says("Returns the minute then", () -> {
            ChangeFeed feed = new ChangeFeed();
            for (int i = 1; i <= 100; i++) {
                DUE.is("pass " + i, feed.pass(999), 999 * i);
            }
        });
        pass.says("BAD_VALUE if minutes is out of range", () -> {
            ChangeFeed feed = new ChangeFeed();
            ChangeFeed late = nearTheLastMinute();
            late.pass(99);
            for (int wrong : Feeds.wrongNumbers(0, 1000, 99999)) {
                DUE.refuses("minutes " + wrong, feed, () -> feed.pass(wrong), ChangeFeed.BAD_VALUE);
                DUE.refuses("too many, too " + wrong, late, () -> late.pass(wrong), ChangeFeed.BAD_VALUE);
            }
        });
        pass.says("TOO_MANY if it would be above 99999.", () -> {
            ChangeFeed feed = nearTheLastMinute();
            DUE.refuses("100000", feed, () -> feed.pass(100), ChangeFeed.TOO_MANY);
            DUE.refuses("far above it", feed, () -> feed.pass(999), ChangeFeed.TOO_MANY);
            DUE.is("99999", feed.pass(99), 99999);
            DUE.refuses("one more", feed, () -> feed.pass(1), ChangeFeed.TOO_MANY);
        });
        pass.end();
    }

    private static void thin() {
        Section thin = new Section(DUE, "Promise 6: thin");
        thin.says("Thins the feed.", () -> {
            ChangeFeed feed = new ChangeFeed();
            feed.turn(ChangeFeed.SIZE, 2);
            feed.set(3, 30);
            feed.pass(5);
            feed.set(4, 40);
            feed.set(3, 31);
            feed.remove(4);
            feed.set(5, 50);
            feed.thin();
            int[][] left = {{2, 3, 31, 5}, {3, 4, ChangeFeed.NONE, 5}, {4, 5, 50, 5}};
            DUE.is("entries that are left", feed.count(0), left.length);
            for (int i = 0; i < left.length; i++) {
                for (int what = 0; what < 4; what++) {
                    DUE.is("entry(" + i + ", " + what + ")", feed.entry(i, what), left[i][what]);
                }
            }
            DUE.is("the table stays", feed.table(3), 31);
            DUE.is("the next number stays", feed.count(1), 5);
            DUE.is("the minute stays", feed.count(3), 5);
            DUE.is("entries that went so far", feed.count(5), 2);
        });
        thin.says("This is a change.", () -> {
            ChangeFeed feed = new ChangeFeed();
            DUE.isAChange("of an empty feed", feed, feed::thin);
            ChangeFeed late = Feeds.quickToThin();
            late.set(0, 1);
            late.remove(0);
            late.pass(1);
            DUE.isAChange("of all entries", late, late::thin);
        });
        thin.says("Returns how many entries go.", () -> {
            DUE.is("of an empty feed", new ChangeFeed().thin(), 0);
            ChangeFeed full = Feeds.full();
            DUE.is("those with later ones", full.thin(), 48);
            DUE.is("at once again", full.thin(), 0);
            ChangeFeed removals = Feeds.quickToThin();
            removals.set(0, 1);
            removals.set(1, 1);
            removals.remove(0);
            removals.remove(1);
            removals.pass(1);
            DUE.is("two with later ones, and two removals", removals.thin(), 4);
            ChangeFeed same = new ChangeFeed();
            for (int i = 0; i < 60; i++) {
                same.set(0, i);
            }
            DUE.is("all but one", same.thin(), 59);
        });
        thin.end();
    }

    private static void snapshot() {
        Section snapshot = new Section(DUE, "Promise 7: snapshot");
        snapshot.says("Makes a snapshot.", () -> {
            ChangeFeed feed = new ChangeFeed();
            feed.set(0, 1);
            feed.snapshot();
            DUE.is("one is kept", feed.count(8), 1);
            DUE.is("its number", feed.ofSnapshot(0, 0), 1);
            DUE.is("its keys", feed.ofSnapshot(0, 1), 1);
            DUE.is("no entry comes", feed.count(0), 1);
            DUE.is("the next number stays", feed.count(1), 1);
        });
        snapshot.says("This is a change.", () -> {
            ChangeFeed feed = new ChangeFeed();
            DUE.isAChange("of an empty table", feed, feed::snapshot);
            for (int i = 0; i < 4; i++) {
                feed.set(i, i);
                feed.snapshot();
            }
            DUE.isAChange("one more than are kept", feed, feed::snapshot);
        });
        snapshot.says("Returns the next number.", () -> {
            ChangeFeed feed = new ChangeFeed();
            feed.turn(ChangeFeed.SIZE, 1);
            DUE.is("of an empty feed", feed.snapshot(), 0);
            for (int i = 1; i <= 6; i++) {
                feed.set(0, i);
                DUE.is("behind " + i + " entries", feed.snapshot(), i);
            }
            feed.thin();
            DUE.is("thinned", feed.snapshot(), 6);
        });
        snapshot.end();
    }
}
