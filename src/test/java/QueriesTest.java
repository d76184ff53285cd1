/** Promises 14 to 19, sentence by sentence: what there is. */
public final class QueriesTest {
    private static final Due DUE = new Due("QueriesTest");

    public static void main(String[] args) {
        table();
        view();
        entry();
        ofReader();
        ofSnapshot();
        count();
        DUE.end();
    }

    private static void table() {
        Section table = new Section(DUE, "Promise 14: table");
        table.says("Returns the value of a key in the table.", () -> {
            ChangeFeed feed = new ChangeFeed();
            feed.set(3, 30);
            feed.set(4, 40);
            feed.set(3, 31);
            DUE.onlyTells("the later value", feed, () -> feed.table(3), 31);
            DUE.onlyTells("another key", feed, () -> feed.table(4), 40);
        });
        table.says("Returns the value;", () -> {
            ChangeFeed feed = new ChangeFeed();
            feed.set(0, 0);
            feed.set(11, 999);
            DUE.is("the lowest, of the first key", feed.table(0), 0);
            DUE.is("the highest, of the last key", feed.table(11), 999);
        });
        table.says("NO_SUCH if there is no such key", () -> {
            ChangeFeed feed = Feeds.full();
            for (int wrong : Feeds.wrongNumbers(12)) {
                DUE.onlyTells("key " + wrong, feed, () -> feed.table(wrong), ChangeFeed.NO_SUCH);
            }
        });
        table.says("NONE if it has none.", () -> {
            ChangeFeed feed = new ChangeFeed();
            feed.set(4, 4);
            feed.remove(4);
            DUE.is("removed", feed.table(4), ChangeFeed.NONE);
            DUE.is("never set, the first key", feed.table(0), ChangeFeed.NONE);
            DUE.is("never set, the last key", feed.table(11), ChangeFeed.NONE);
        });
        table.end();
    }

    private static void view() {
        Section view = new Section(DUE, "Promise 15: view");
        view.says("Returns the value of a key in the view of a reader.", () -> {
            ChangeFeed feed = Feeds.withReader();
            feed.reader();
            feed.set(3, 30);
            feed.set(4, 40);
            feed.read(1, 1);
            feed.set(3, 31);
            DUE.onlyTells("what it read", feed, () -> feed.view(1, 3), 30);
            DUE.onlyTells("what it did not read", feed, () -> feed.view(1, 4), ChangeFeed.NONE);
            DUE.onlyTells("what another one read", feed, () -> feed.view(0, 3), ChangeFeed.NONE);
        });
        view.says("Returns the value;", () -> {
            ChangeFeed feed = Feeds.withReader();
            feed.set(0, 0);
            feed.set(11, 999);
            feed.read(0, 2);
            DUE.is("the lowest, of the first key", feed.view(0, 0), 0);
            DUE.is("the highest, of the last key", feed.view(0, 11), 999);
        });
        view.says("NO_SUCH if there is no such reader or key", () -> {
            ChangeFeed none = new ChangeFeed();
            none.set(0, 1);
            DUE.onlyTells("before a reader comes", none, () -> none.view(0, 0), ChangeFeed.NO_SUCH);
            ChangeFeed feed = Feeds.withReader();
            feed.reader();
            for (int wrong : Feeds.wrongNumbers(12)) {
                DUE.onlyTells("key " + wrong, feed, () -> feed.view(1, wrong), ChangeFeed.NO_SUCH);
                DUE.onlyTells("reader " + wrong, feed, () -> feed.view(wrong, 0), ChangeFeed.NO_SUCH);
                DUE.onlyTells("both " + wrong, feed, () -> feed.view(wrong, wrong), ChangeFeed.NO_SUCH);
            }
            for (int wrong = 2; wrong < 8; wrong++) {
                int reader = wrong;
                DUE.onlyTells("of two, reader " + wrong, feed, () -> feed.view(reader, 0), ChangeFeed.NO_SUCH);
            }
        });
        view.says("NONE if it has none.", () -> {
            ChangeFeed feed = Feeds.withReader();
            feed.set(4, 4);
            feed.remove(4);
            feed.read(0, 2);
            DUE.is("removed", feed.view(0, 4), ChangeFeed.NONE);
            DUE.is("never set, the first key", feed.view(0, 0), ChangeFeed.NONE);
            DUE.is("never set, the last key", feed.view(0, 11), ChangeFeed.NONE);
        });
        view.end();
    }

    /** Five entries, of which the first two are no longer the last ones of their keys; the last one's segment is open. */
    private static ChangeFeed withFive() {
        ChangeFeed feed = new ChangeFeed();
        feed.turn(ChangeFeed.SIZE, 2);
        feed.set(3, 30);
        feed.pass(5);
        feed.set(4, 40);
        feed.set(3, 31);
        feed.pass(6);
        feed.remove(4);
        feed.set(5, 50);
        return feed;
    }

    private static void eachEntry(int what, int... due) {
        ChangeFeed feed = withFive();
        for (int i = 0; i < due.length; i++) {
            int entry = i;
            DUE.onlyTells("of entry " + i, feed, () -> feed.entry(entry, what), due[i]);
        }
        feed.thin();
        for (int i = 0; i < 3 && what < 5; i++) {
            DUE.is("of what is left, entry " + i, feed.entry(i, what), due[i + 2]);
        }
    }

    private static void entry() {
        Section entry = new Section(DUE, "Promise 16: entry");
        entry.says("Returns something about an entry that is in the feed.", () -> {
            ChangeFeed feed = withFive();
            feed.thin();
            DUE.is("the first one that did not go", feed.entry(0, 0), 2);
            DUE.is("its minute", feed.entry(0, 3), 5);
            DUE.is("the last one", feed.entry(2, 1), 5);
        });
        entry.says("`entry`: 0 for the first one, and so on", () -> {
            ChangeFeed feed = Feeds.full();
            for (int i = 0; i < 60; i++) {
                DUE.is("entry " + i, feed.entry(i, 2), i);
            }
        });
        entry.says("`what`: 0 its number", () -> eachEntry(0, 0, 1, 2, 3, 4));
        entry.says("1 its key", () -> eachEntry(1, 3, 4, 3, 4, 5));
        entry.says("2 its value (NONE if it tells of a removal)", () -> eachEntry(2, 30, 40, 31, ChangeFeed.NONE, 50));
        entry.says("3 its minute", () -> eachEntry(3, 0, 5, 5, 11, 11));
        entry.says("4 whether it is the last one of its key (1 or 0)", () -> eachEntry(4, 0, 0, 1, 1, 1));
        entry.says("5 whether it is in a closed segment (1 or 0)", () -> {
            eachEntry(5, 1, 1, 1, 1, 0);
            ChangeFeed feed = new ChangeFeed();
            for (int i = 0; i < 4; i++) {
                feed.set(i, i);
                DUE.is("0 to 4 are one segment", feed.entry(0, 5), 0);
            }
            feed.set(4, 4);
            DUE.is("the next number is in another one", feed.entry(4, 5), 1);
            feed.turn(ChangeFeed.SIZE, 6);
            DUE.is("not with the size 6", feed.entry(4, 5), 0);
            feed.turn(ChangeFeed.SIZE, 4);
            DUE.is("with the size 4, the first four", feed.entry(3, 5), 1);
            DUE.is("but not the fifth", feed.entry(4, 5), 0);
        });
        entry.says("Returns the number;", () -> {
            ChangeFeed feed = new ChangeFeed();
            feed.set(0, 0);
            DUE.is("a number that is 0", feed.entry(0, 0), 0);
            ChangeFeed full = Feeds.full();
            DUE.is("of the 60th", full.entry(59, 0), 59);
        });
        entry.says("NO_SUCH if there is no such entry", () -> {
            ChangeFeed empty = new ChangeFeed();
            DUE.onlyTells("of an empty feed", empty, () -> empty.entry(0, 0), ChangeFeed.NO_SUCH);
            ChangeFeed full = Feeds.full();
            ChangeFeed five = withFive();
            for (int wrong : Feeds.wrongNumbers(60, 61)) {
                DUE.onlyTells("of sixty, entry " + wrong, full, () -> full.entry(wrong, 0), ChangeFeed.NO_SUCH);
                DUE.onlyTells("of five, entry " + wrong, five, () -> five.entry(wrong, 1), ChangeFeed.NO_SUCH);
                DUE.onlyTells("a bad value, too " + wrong, five, () -> five.entry(5, wrong), ChangeFeed.NO_SUCH);
            }
            DUE.onlyTells("of five, entry 5", five, () -> five.entry(5, 0), ChangeFeed.NO_SUCH);
            five.thin();
            DUE.onlyTells("of the three that are left, entry 3", five, () -> five.entry(3, 0), ChangeFeed.NO_SUCH);
        });
        entry.says("BAD_VALUE if what is out of range.", () -> {
            ChangeFeed feed = withFive();
            for (int wrong : Feeds.wrongNumbers(6, 7)) {
                DUE.onlyTells("what " + wrong, feed, () -> feed.entry(0, wrong), ChangeFeed.BAD_VALUE);
                DUE.onlyTells("of the last one " + wrong, feed, () -> feed.entry(4, wrong), ChangeFeed.BAD_VALUE);
            }
        });
        entry.end();
    }

    /** The reader 0 confirmed at 2 and is at 3, behind the values 1, 1 and 2 of the keys 0 to 2. */
    private static ChangeFeed amidReading() {
        ChangeFeed feed = Feeds.withReader();
        feed.set(0, 1);
        feed.set(1, 1);
        feed.set(2, 2);
        feed.read(0, 2);
        feed.confirm(0);
        feed.read(0, 1);
        feed.set(1, 9);
        feed.remove(0);
        return feed;
    }

    private static void ofReader() {
        Section ofReader = new Section(DUE, "Promise 17: ofReader");
        ofReader.says("Returns something about a reader.", () -> {
            ChangeFeed feed = amidReading();
            feed.reader();
            DUE.is("the place of one", feed.ofReader(0, 0), 3);
            DUE.is("the place of another one", feed.ofReader(1, 0), 0);
        });
        ofReader.says("`what`: 0 its place", () -> {
            ChangeFeed feed = amidReading();
            DUE.onlyTells("behind the third", feed, () -> feed.ofReader(0, 0), 3);
            DUE.is("that of a new one", Feeds.withReader().ofReader(0, 0), 0);
        });
        ofReader.says("1 its confirmed place", () -> {
            ChangeFeed feed = amidReading();
            DUE.onlyTells("behind the second", feed, () -> feed.ofReader(0, 1), 2);
            DUE.is("that of a new one", Feeds.withReader().ofReader(0, 1), 0);
        });
        ofReader.says("2 the entries ahead of it (with a number of at least its place)", () -> {
            ChangeFeed feed = amidReading();
            DUE.onlyTells("two of five", feed, () -> feed.ofReader(0, 2), 2);
            feed.read(0, 9);
            DUE.is("none", feed.ofReader(0, 2), 0);
            feed.goBack(0);
            DUE.is("three of five", feed.ofReader(0, 2), 3);
            feed.thin();
            DUE.is("those that went are not ahead", feed.ofReader(0, 2), 3);
            feed.beginAnew(0);
            DUE.is("all that are left", feed.ofReader(0, 2), 3);
            DUE.is("of a late one", Feeds.withLateReader().ofReader(0, 2), 1);
            ChangeFeed full = Feeds.full();
            full.reader();
            DUE.is("sixty", full.ofReader(0, 2), 60);
        });
        ofReader.says("3 whether it is late (1 or 0)", () -> {
            ChangeFeed feed = Feeds.withLateReader();
            DUE.onlyTells("below the floor", feed, () -> feed.ofReader(0, 3), 1);
            feed.reader();
            DUE.is("at the place 0", feed.ofReader(1, 3), 0);
            feed.snapshot();
            feed.load(1, 0);
            DUE.is("at the floor", feed.ofReader(1, 3), 0);
            DUE.is("without a floor", amidReading().ofReader(0, 3), 0);
        });
        ofReader.says("4 entries that it read so far (those that it read again, too)", () -> {
            ChangeFeed feed = amidReading();
            DUE.onlyTells("three", feed, () -> feed.ofReader(0, 4), 3);
            feed.goBack(0);
            feed.read(0, 1);
            DUE.is("one of them again", feed.ofReader(0, 4), 4);
            feed.beginAnew(0);
            DUE.is("none by beginning anew", feed.ofReader(0, 4), 4);
            feed.read(0, 99);
            DUE.is("all five again", feed.ofReader(0, 4), 9);
            feed.snapshot();
            feed.load(0, 0);
            DUE.is("none by a snapshot", feed.ofReader(0, 4), 9);
        });
        ofReader.says("5 the keys, as a set, whose value in its view is another one than in the table", () -> {
            ChangeFeed feed = amidReading();
            DUE.onlyTells("removed, and set again", feed, () -> feed.ofReader(0, 5), 3);
            feed.set(1, 1);
            DUE.is("set to what it was", feed.ofReader(0, 5), 1);
            feed.set(11, 0);
            DUE.is("set to 0, but none in the view", feed.ofReader(0, 5), 2049);
            feed.read(0, 9);
            DUE.is("caught up", feed.ofReader(0, 5), 0);
        });
        ofReader.says("6 the same for its confirmed view", () -> {
            ChangeFeed feed = amidReading();
            DUE.onlyTells("the third key, too", feed, () -> feed.ofReader(0, 6), 7);
            feed.read(0, 9);
            DUE.is("until it confirms", feed.ofReader(0, 6), 7);
            feed.confirm(0);
            DUE.is("it did", feed.ofReader(0, 6), 0);
        });
        ofReader.says("Returns the number;", () -> {
            ChangeFeed feed = Feeds.full();
            feed.reader();
            DUE.is("all keys", feed.ofReader(0, 5), 4095);
        });
        ofReader.says("NO_SUCH if there is no such reader", () -> {
            ChangeFeed none = new ChangeFeed();
            DUE.onlyTells("before one comes", none, () -> none.ofReader(0, 0), ChangeFeed.NO_SUCH);
            ChangeFeed feed = amidReading();
            for (int wrong : Feeds.wrongNumbers(1, 2, 5, 6, 7)) {
                DUE.onlyTells("reader " + wrong, feed, () -> feed.ofReader(wrong, 0), ChangeFeed.NO_SUCH);
                DUE.onlyTells("a bad value, too " + wrong, feed, () -> feed.ofReader(wrong, 7), ChangeFeed.NO_SUCH);
            }
            for (int i = 1; i < 6; i++) {
                feed.reader();
            }
            DUE.is("the sixth", feed.ofReader(5, 0), 0);
            DUE.onlyTells("no seventh", feed, () -> feed.ofReader(6, 0), ChangeFeed.NO_SUCH);
        });
        ofReader.says("BAD_VALUE if what is out of range.", () -> {
            ChangeFeed feed = amidReading();
            for (int wrong : Feeds.wrongNumbers(7, 8)) {
                DUE.onlyTells("what " + wrong, feed, () -> feed.ofReader(0, wrong), ChangeFeed.BAD_VALUE);
            }
        });
        ofReader.end();
    }

    private static ChangeFeed withTwoSnapshots() {
        ChangeFeed feed = new ChangeFeed();
        feed.set(0, 0);
        feed.set(11, 2);
        feed.snapshot();
        feed.set(2, 2);
        feed.remove(0);
        feed.remove(11);
        feed.snapshot();
        return feed;
    }

    private static void ofSnapshot() {
        Section ofSnapshot = new Section(DUE, "Promise 18: ofSnapshot");
        ofSnapshot.says("Returns something about a snapshot.", () -> {
            ChangeFeed feed = withTwoSnapshots();
            feed.set(5, 5);
            DUE.is("what was when it was made", feed.ofSnapshot(0, 1), 1);
        });
        ofSnapshot.says("`snapshot`: 0 for the latest one, and so on", () -> {
            ChangeFeed feed = new ChangeFeed();
            for (int i = 1; i <= 5; i++) {
                feed.set(i, i);
                feed.snapshot();
            }
            for (int i = 0; i < 4; i++) {
                DUE.is("snapshot " + i, feed.ofSnapshot(i, 0), 5 - i);
            }
        });
        ofSnapshot.says("`what`: 0 its number", () -> {
            ChangeFeed feed = withTwoSnapshots();
            DUE.onlyTells("the latest", feed, () -> feed.ofSnapshot(0, 0), 5);
            DUE.onlyTells("the one before", feed, () -> feed.ofSnapshot(1, 0), 2);
        });
        ofSnapshot.says("1 how many keys have a value in it", () -> {
            ChangeFeed feed = withTwoSnapshots();
            DUE.onlyTells("the latest", feed, () -> feed.ofSnapshot(0, 1), 1);
            DUE.onlyTells("the one before", feed, () -> feed.ofSnapshot(1, 1), 2);
            ChangeFeed empty = new ChangeFeed();
            empty.snapshot();
            DUE.is("none", empty.ofSnapshot(0, 1), 0);
            ChangeFeed full = Feeds.full();
            full.snapshot();
            DUE.is("all", full.ofSnapshot(0, 1), 12);
        });
        ofSnapshot.says("2 the entries in the feed with a number of at least its own", () -> {
            ChangeFeed feed = withTwoSnapshots();
            DUE.onlyTells("the latest", feed, () -> feed.ofSnapshot(0, 2), 0);
            DUE.onlyTells("the one before", feed, () -> feed.ofSnapshot(1, 2), 3);
            feed.set(2, 3);
            DUE.is("one more", feed.ofSnapshot(0, 2), 1);
            feed.turn(ChangeFeed.SIZE, 1);
            feed.thin();
            DUE.is("one of those went", feed.ofSnapshot(1, 2), 3);
        });
        ofSnapshot.says("Returns the number;", () -> {
            ChangeFeed feed = new ChangeFeed();
            feed.snapshot();
            for (int what = 0; what < 3; what++) {
                DUE.is("of nothing, what " + what, feed.ofSnapshot(0, what), 0);
            }
        });
        ofSnapshot.says("NO_SUCH if there is no such snapshot", () -> {
            ChangeFeed none = new ChangeFeed();
            DUE.onlyTells("before one is made", none, () -> none.ofSnapshot(0, 0), ChangeFeed.NO_SUCH);
            ChangeFeed feed = withTwoSnapshots();
            for (int wrong : Feeds.wrongNumbers(2, 3, 4, 5)) {
                DUE.onlyTells("snapshot " + wrong, feed, () -> feed.ofSnapshot(wrong, 0), ChangeFeed.NO_SUCH);
                DUE.onlyTells("a bad value, too " + wrong, feed, () -> feed.ofSnapshot(wrong, 3), ChangeFeed.NO_SUCH);
            }
            for (int i = 0; i < 5; i++) {
                feed.snapshot();
            }
            DUE.onlyTells("four are kept", feed, () -> feed.ofSnapshot(4, 0), ChangeFeed.NO_SUCH);
        });
        ofSnapshot.says("BAD_VALUE if what is out of range.", () -> {
            ChangeFeed feed = withTwoSnapshots();
            for (int wrong : Feeds.wrongNumbers(3, 4)) {
                DUE.onlyTells("what " + wrong, feed, () -> feed.ofSnapshot(1, wrong), ChangeFeed.BAD_VALUE);
            }
        });
        ofSnapshot.end();
    }

    /** Two readers, of which the second is late, one snapshot, and two of five entries that are left. */
    private static ChangeFeed withAll() {
        ChangeFeed feed = new ChangeFeed();
        feed.turn(ChangeFeed.SIZE, 1);
        feed.turn(ChangeFeed.GRACE, 3);
        feed.reader();
        feed.reader();
        feed.set(0, 1);
        feed.set(1, 1);
        feed.read(1, 1);
        feed.set(2, 2);
        feed.set(2, 3);
        feed.remove(1);
        feed.snapshot();
        feed.pass(4);
        feed.thin();
        return feed;
    }

    private static void count() {
        Section count = new Section(DUE, "Promise 19: count");
        count.says("Returns a number.", () -> {
            ChangeFeed feed = withAll();
            Feeds.write(feed, "h;q");
            int[] due = {2, 5, 2, 4, 5, 3, 2, 2, 1, 1, 3, 3, 6};
            for (int i = 0; i < due.length; i++) {
                int what = i;
                DUE.onlyTells("what " + i, feed, () -> feed.count(what), due[i]);
            }
        });
        count.says("`what`: 0 entries in the feed", () -> {
            DUE.is("none", new ChangeFeed().count(0), 0);
            DUE.is("all", Feeds.full().count(0), 60);
            DUE.is("thinned", withAll().count(0), 2);
        });
        count.says("1 the next number", () -> {
            DUE.is("first", new ChangeFeed().count(1), 0);
            DUE.is("behind sixty", Feeds.full().count(1), 60);
            DUE.is("thinned", withAll().count(1), 5);
        });
        count.says("2 keys with a value", () -> {
            DUE.is("none", new ChangeFeed().count(2), 0);
            DUE.is("all", Feeds.full().count(2), 12);
            ChangeFeed feed = new ChangeFeed();
            feed.set(0, 0);
            DUE.is("0 is a value", feed.count(2), 1);
            feed.remove(0);
            DUE.is("removed", feed.count(2), 0);
        });
        count.says("3 the minute", () -> {
            DUE.is("first", new ChangeFeed().count(3), 0);
            DUE.is("passed", withAll().count(3), 4);
        });
        count.says("4 the floor", () -> {
            DUE.is("first", new ChangeFeed().count(4), 0);
            DUE.is("behind a removal", withAll().count(4), 5);
        });
        count.says("5 entries that went so far", () -> {
            ChangeFeed feed = withAll();
            DUE.is("three", feed.count(5), 3);
            feed.set(0, 2);
            feed.thin();
            DUE.is("one more", feed.count(5), 4);
            DUE.is("none", Feeds.full().count(5), 0);
        });
        count.says("6 readers", () -> {
            ChangeFeed feed = new ChangeFeed();
            for (int i = 0; i < 8; i++) {
                DUE.is("readers", feed.count(6), Math.min(i, 6));
                feed.reader();
            }
        });
        count.says("7 late readers, as a set", () -> {
            ChangeFeed feed = withAll();
            DUE.is("the second one", feed.count(7), 2);
            for (int i = 2; i < 6; i++) {
                feed.reader();
            }
            feed.read(5, 1);
            DUE.is("and the sixth", feed.count(7), 34);
            feed.beginAnew(1);
            DUE.is("the second one no longer", feed.count(7), 32);
        });
        count.says("8 snapshots that are kept", () -> {
            ChangeFeed feed = new ChangeFeed();
            for (int i = 0; i < 7; i++) {
                DUE.is("snapshots", feed.count(8), Math.min(i, 4));
                feed.snapshot();
            }
        });
        count.says("9 and 10 the settings", () -> {
            DUE.is("the size at first", new ChangeFeed().count(9), 5);
            DUE.is("the grace at first", new ChangeFeed().count(10), 30);
            DUE.is("the size", withAll().count(9), 1);
            DUE.is("the grace", withAll().count(10), 3);
        });
        count.says("11 the length of the pad", () -> {
            ChangeFeed feed = new ChangeFeed();
            DUE.is("empty", feed.count(11), 0);
            Feeds.write(feed, "h;".repeat(40));
            DUE.is("full", feed.count(11), 80);
            feed.wipe();
            DUE.is("wiped", feed.count(11), 0);
        });
        count.says("12 how many changes can be undone", () -> {
            ChangeFeed feed = new ChangeFeed();
            for (int i = 0; i < 9; i++) {
                DUE.is("changes", feed.count(12), Math.min(i, 6));
                feed.pass(1);
            }
            feed.undo();
            DUE.is("one less", feed.count(12), 5);
        });
        count.says("Returns the number;", () -> {
            ChangeFeed feed = Feeds.quickToThin();
            feed.turn(ChangeFeed.GRACE, 999);
            DUE.is("the largest grace", feed.count(10), 999);
        });
        count.says("BAD_VALUE if what is out of range.", () -> {
            ChangeFeed feed = withAll();
            for (int wrong : Feeds.wrongNumbers(13, 14)) {
                DUE.onlyTells("what " + wrong, feed, () -> feed.count(wrong), ChangeFeed.BAD_VALUE);
            }
        });
        count.end();
    }
}
