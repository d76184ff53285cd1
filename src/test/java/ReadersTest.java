/** Promises 8 to 13, sentence by sentence: what readers do. */
public final class ReadersTest {
    private static final Due DUE = new Due("ReadersTest");

    public static void main(String[] args) {
        reader();
        read();
        confirm();
        goBack();
        beginAnew();
        load();
        DUE.end();
    }

    /** What a reader is asked for with numbers that no reader has. */
    private interface Asked {
        int of(ChangeFeed feed, int reader);
    }

    private static void noSuchReader(Asked asked) {
        ChangeFeed none = new ChangeFeed();
        none.snapshot();
        DUE.refuses("before one comes", none, () -> asked.of(none, 0), ChangeFeed.NO_SUCH);
        ChangeFeed two = Feeds.withReader();
        two.reader();
        two.snapshot();
        for (int wrong : Feeds.wrongNumbers(2, 3, 4, 5, 6)) {
            DUE.refuses("of two, reader " + wrong, two, () -> asked.of(two, wrong), ChangeFeed.NO_SUCH);
        }
        ChangeFeed six = new ChangeFeed();
        for (int i = 0; i < 6; i++) {
            six.reader();
        }
        six.snapshot();
        for (int wrong : Feeds.wrongNumbers(6, 7)) {
            DUE.refuses("of six, reader " + wrong, six, () -> asked.of(six, wrong), ChangeFeed.NO_SUCH);
        }
        DUE.holds("the sixth one", asked.of(six, 5) >= 0);
    }

    private static void reader() {
        Section reader = new Section(DUE, "Promise 8: reader");
        reader.says("A reader comes.", () -> {
            ChangeFeed feed = new ChangeFeed();
            feed.set(0, 1);
            feed.reader();
            DUE.is("readers", feed.count(6), 1);
            int[] due = {0, 0, 1, 0, 0, 1, 1};
            for (int what = 0; what < due.length; what++) {
                DUE.is("ofReader(0, " + what + ")", feed.ofReader(0, what), due[what]);
            }
            feed.read(0, 1);
            feed.reader();
            DUE.is("another one has a place of its own", feed.ofReader(1, 0), 0);
            DUE.is("the first one stays where it is", feed.ofReader(0, 0), 1);
            ChangeFeed again = new ChangeFeed();
            again.save(0);
            again.reader();
            again.set(0, 1);
            again.read(0, 1);
            again.confirm(0);
            again.restore(0);
            DUE.is("after a restore", again.reader(), 0);
            DUE.is("nothing of the former one", again.ofReader(0, 0) + again.ofReader(0, 1) + again.ofReader(0, 4), 0);
            again.goBack(0);
            DUE.is("nor in its view", again.view(0, 0), ChangeFeed.NONE);
        });
        reader.says("This is a change.", () -> {
            ChangeFeed feed = new ChangeFeed();
            DUE.isAChange("the first one", feed, feed::reader);
            feed.reader();
            DUE.isAChange("the second one", feed, feed::reader);
        });
        reader.says("Returns its number", () -> {
            ChangeFeed feed = new ChangeFeed();
            for (int i = 0; i < 6; i++) {
                DUE.is("in their order", feed.reader(), i);
            }
        });
        reader.says("TOO_MANY if there are 6 readers.", () -> {
            ChangeFeed feed = new ChangeFeed();
            for (int i = 0; i < 5; i++) {
                feed.reader();
            }
            DUE.is("the sixth", feed.reader(), 5);
            DUE.refuses("the seventh", feed, feed::reader, ChangeFeed.TOO_MANY);
            feed.undo();
            DUE.is("the sixth is undone", feed.reader(), 5);
        });
        reader.end();
    }

    private static ChangeFeed withFour() {
        ChangeFeed feed = Feeds.withReader();
        feed.set(0, 10);
        feed.set(1, 11);
        feed.set(0, 12);
        feed.remove(1);
        return feed;
    }

    private static void read() {
        Section read = new Section(DUE, "Promise 9: read");
        read.says("Lets a reader read entries, until so many are read", () -> {
            ChangeFeed feed = withFour();
            feed.read(0, 1);
            DUE.is("the place behind one", feed.ofReader(0, 0), 1);
            DUE.is("the first one's value", feed.view(0, 0), 10);
            DUE.is("the second one's, not yet", feed.view(0, 1), ChangeFeed.NONE);
            feed.read(0, 2);
            DUE.is("the place behind three", feed.ofReader(0, 0), 3);
            DUE.is("the third one's value", feed.view(0, 0), 12);
            DUE.is("the second one's value", feed.view(0, 1), 11);
            feed.read(0, 1);
            DUE.is("the place behind four", feed.ofReader(0, 0), 4);
            DUE.is("the fourth is a removal", feed.view(0, 1), ChangeFeed.NONE);
            DUE.is("nothing is confirmed by it", feed.ofReader(0, 1), 0);
            DUE.is("nor in the view", feed.ofReader(0, 6), 1);
            DUE.is("the entries stay", feed.count(0), 4);
        });
        read.says("or it has caught up", () -> {
            ChangeFeed feed = withFour();
            feed.read(0, 99);
            DUE.is("the place", feed.ofReader(0, 0), 4);
            DUE.is("the view", feed.ofReader(0, 5), 0);
            feed.read(0, 99);
            DUE.is("the place stays", feed.ofReader(0, 0), 4);
            ChangeFeed empty = Feeds.withReader();
            empty.read(0, 99);
            DUE.is("the place in an empty feed", empty.ofReader(0, 0), 0);
        });
        read.says("(also if it becomes late amid the call).", () -> {
            ChangeFeed feed = Feeds.quickToThin();
            feed.reader();
            feed.set(0, 1);
            feed.set(1, 1);
            feed.set(2, 1);
            feed.remove(0);
            feed.pass(1);
            feed.set(3, 1);
            feed.thin();
            DUE.is("the floor", feed.count(4), 4);
            DUE.is("the second one, late by the first", feed.read(0, 2), 2);
            DUE.is("late behind it", feed.ofReader(0, 3), 1);
            feed.beginAnew(0);
            DUE.is("past the floor", feed.read(0, 99), 3);
            DUE.is("not late behind it", feed.ofReader(0, 3), 0);
            DUE.is("caught up", feed.ofReader(0, 5), 0);
        });
        read.says("This is a change.", () -> {
            ChangeFeed feed = withFour();
            DUE.isAChange("two entries", feed, () -> feed.read(0, 2));
            ChangeFeed empty = Feeds.withReader();
            DUE.isAChange("no entry", empty, () -> empty.read(0, 1));
        });
        read.says("`many`: 1 to 99", () -> {
            ChangeFeed full = Feeds.full();
            full.reader();
            DUE.is("the fewest", full.read(0, 1), 1);
            DUE.is("the most", full.read(0, 99), 59);
        });
        read.says("Returns how many are read", () -> {
            ChangeFeed feed = withFour();
            DUE.is("as many as are asked for", feed.read(0, 3), 3);
            DUE.is("fewer, as it has caught up", feed.read(0, 2), 1);
            DUE.is("none", feed.read(0, 5), 0);
            feed.turn(ChangeFeed.SIZE, 4);
            feed.thin();
            feed.beginAnew(0);
            DUE.is("not those that went", feed.read(0, 9), 2);
        });
        read.says("NO_SUCH if there is no such reader", () -> {
            noSuchReader((feed, reader) -> feed.read(reader, 1));
            ChangeFeed feed = withFour();
            DUE.refuses("too few, too", feed, () -> feed.read(1, 0), ChangeFeed.NO_SUCH);
            DUE.refuses("too many, too", feed, () -> feed.read(-1, 100), ChangeFeed.NO_SUCH);
        });
        read.says("BAD_VALUE if many is out of range", () -> {
            ChangeFeed feed = withFour();
            ChangeFeed late = Feeds.withLateReader();
            for (int wrong : Feeds.wrongNumbers(0, 100)) {
                DUE.refuses("many " + wrong, feed, () -> feed.read(0, wrong), ChangeFeed.BAD_VALUE);
                DUE.refuses("late, too " + wrong, late, () -> late.read(0, wrong), ChangeFeed.BAD_VALUE);
            }
        });
        read.says("NOT_POSSIBLE if the reader is late.", () -> {
            ChangeFeed feed = Feeds.withLateReader();
            DUE.refuses("the late one", feed, () -> feed.read(0, 1), ChangeFeed.NOT_POSSIBLE);
            DUE.refuses("with the most", feed, () -> feed.read(0, 99), ChangeFeed.NOT_POSSIBLE);
            feed.reader();
            DUE.is("one at the place 0 is not late", feed.read(1, 1), 1);
            DUE.refuses("it is, below the floor", feed, () -> feed.read(1, 1), ChangeFeed.NOT_POSSIBLE);
            feed.snapshot();
            feed.load(0, 0);
            DUE.is("one at the floor is not late", feed.read(0, 1), 0);
        });
        read.end();
    }

    private static void confirm() {
        Section confirm = new Section(DUE, "Promise 10: confirm");
        confirm.says("A reader confirms.", () -> {
            ChangeFeed feed = withFour();
            feed.reader();
            feed.read(0, 3);
            feed.confirm(0);
            DUE.is("the confirmed place", feed.ofReader(0, 1), 3);
            DUE.is("the confirmed view", feed.ofReader(0, 6), 2);
            DUE.is("the place stays", feed.ofReader(0, 0), 3);
            DUE.is("the view stays", feed.view(0, 1), 11);
            DUE.is("another one does not confirm", feed.ofReader(1, 1), 0);
            feed.read(0, 1);
            DUE.is("the confirmed place stays", feed.ofReader(0, 1), 3);
            DUE.is("so does the confirmed view", feed.ofReader(0, 6), 2);
        });
        confirm.says("This is a change.", () -> {
            ChangeFeed feed = withFour();
            DUE.isAChange("at the place 0", feed, () -> feed.confirm(0));
            feed.read(0, 2);
            DUE.isAChange("at the place 2", feed, () -> feed.confirm(0));
        });
        confirm.says("Returns its place", () -> {
            ChangeFeed feed = withFour();
            DUE.is("0", feed.confirm(0), 0);
            feed.read(0, 2);
            DUE.is("2", feed.confirm(0), 2);
            DUE.is("2 again", feed.confirm(0), 2);
            DUE.is("of a late one", Feeds.withLateReader().confirm(0), 1);
        });
        confirm.says("NO_SUCH if there is no such reader.", () -> noSuchReader(ChangeFeed::confirm));
        confirm.end();
    }

    private static void goBack() {
        Section goBack = new Section(DUE, "Promise 11: goBack");
        goBack.says("A reader goes back.", () -> {
            ChangeFeed feed = withFour();
            feed.reader();
            feed.read(1, 4);
            feed.read(0, 2);
            feed.confirm(0);
            feed.read(0, 2);
            feed.goBack(0);
            DUE.is("the place", feed.ofReader(0, 0), 2);
            DUE.is("the view of one key", feed.view(0, 0), 10);
            DUE.is("the view of the other", feed.view(0, 1), 11);
            DUE.is("the confirmed place stays", feed.ofReader(0, 1), 2);
            DUE.is("another one does not go back", feed.ofReader(1, 0), 4);
            DUE.is("what it read so far stays", feed.ofReader(0, 4), 4);
            feed.read(0, 1);
            DUE.is("on from there", feed.view(0, 0), 12);
            DUE.is("the confirmed view stays", feed.ofReader(0, 6), 3);
        });
        goBack.says("This is a change.", () -> {
            ChangeFeed feed = withFour();
            DUE.isAChange("to where it is", feed, () -> feed.goBack(0));
            feed.read(0, 2);
            DUE.isAChange("from the place 2", feed, () -> feed.goBack(0));
        });
        goBack.says("Returns its place then", () -> {
            ChangeFeed feed = withFour();
            feed.read(0, 3);
            DUE.is("nothing was confirmed", feed.goBack(0), 0);
            feed.read(0, 1);
            feed.confirm(0);
            feed.read(0, 1);
            DUE.is("1 was confirmed", feed.goBack(0), 1);
            DUE.is("of a late one", Feeds.withLateReader().goBack(0), 1);
        });
        goBack.says("NO_SUCH if there is no such reader.", () -> noSuchReader(ChangeFeed::goBack));
        goBack.end();
    }

    private static void beginAnew() {
        Section beginAnew = new Section(DUE, "Promise 12: beginAnew");
        beginAnew.says("A reader begins anew, with the place 0 and an empty view", () -> {
            ChangeFeed feed = withFour();
            feed.reader();
            feed.read(0, 3);
            feed.read(1, 3);
            feed.beginAnew(0);
            DUE.is("the place", feed.ofReader(0, 0), 0);
            for (int key = 0; key < 12; key++) {
                DUE.is("the view of key " + key, feed.view(0, key), ChangeFeed.NONE);
            }
            DUE.is("what it read so far stays", feed.ofReader(0, 4), 3);
            DUE.is("another one does not", feed.ofReader(1, 0), 3);
        });
        beginAnew.says("both are confirmed.", () -> {
            ChangeFeed feed = withFour();
            feed.read(0, 3);
            feed.confirm(0);
            feed.beginAnew(0);
            DUE.is("the confirmed place", feed.ofReader(0, 1), 0);
            DUE.is("the confirmed view", feed.ofReader(0, 6), 1);
            feed.goBack(0);
            DUE.is("the place to go back to", feed.ofReader(0, 0), 0);
            DUE.is("the view to go back to", feed.view(0, 1), ChangeFeed.NONE);
        });
        beginAnew.says("This is a change.", () -> {
            ChangeFeed feed = withFour();
            DUE.isAChange("at the place 0", feed, () -> feed.beginAnew(0));
            feed.read(0, 3);
            feed.confirm(0);
            DUE.isAChange("at the place 3", feed, () -> feed.beginAnew(0));
        });
        beginAnew.says("Returns how many entries are ahead of it then", () -> {
            ChangeFeed feed = withFour();
            feed.read(0, 4);
            DUE.is("all of them", feed.beginAnew(0), 4);
            feed.turn(ChangeFeed.SIZE, 4);
            feed.thin();
            DUE.is("all that are left", feed.beginAnew(0), 2);
            DUE.is("none", Feeds.withReader().beginAnew(0), 0);
            DUE.is("of a late one", Feeds.withLateReader().beginAnew(0), 1);
            ChangeFeed full = Feeds.full();
            full.reader();
            DUE.is("a full feed", full.beginAnew(0), 60);
        });
        beginAnew.says("NO_SUCH if there is no such reader.", () -> noSuchReader(ChangeFeed::beginAnew));
        beginAnew.end();
    }

    private static ChangeFeed withTwoSnapshots() {
        ChangeFeed feed = Feeds.withReader();
        feed.set(0, 1);
        feed.snapshot();
        feed.set(1, 2);
        feed.snapshot();
        feed.remove(0);
        feed.set(2, 3);
        return feed;
    }

    private static void load() {
        Section load = new Section(DUE, "Promise 13: load");
        load.says("A reader loads a snapshot.", () -> {
            ChangeFeed feed = withTwoSnapshots();
            feed.reader();
            feed.read(0, 9);
            feed.load(0, 0);
            DUE.is("the place", feed.ofReader(0, 0), 2);
            DUE.is("the view of key 0", feed.view(0, 0), 1);
            DUE.is("the view of key 1", feed.view(0, 1), 2);
            DUE.is("the view of a key that came later", feed.view(0, 2), ChangeFeed.NONE);
            DUE.is("the confirmed place", feed.ofReader(0, 1), 2);
            DUE.is("the confirmed view", feed.ofReader(0, 6), 5);
            DUE.is("what it read so far stays", feed.ofReader(0, 4), 4);
            DUE.is("another one does not", feed.ofReader(1, 0), 0);
            feed.read(0, 1);
            DUE.is("on from there", feed.view(0, 0), ChangeFeed.NONE);
            DUE.is("the snapshot stays as it was", feed.ofSnapshot(0, 1), 2);
        });
        load.says("This is a change.", () -> {
            ChangeFeed feed = withTwoSnapshots();
            DUE.isAChange("a snapshot", feed, () -> feed.load(0, 1));
            feed.load(0, 1);
            DUE.isAChange("the same again", feed, () -> feed.load(0, 1));
            ChangeFeed empty = Feeds.withReader();
            empty.snapshot();
            DUE.isAChange("that of nothing", empty, () -> empty.load(0, 0));
        });
        load.says("`snapshot`: 0 for the latest one, and so on", () -> {
            ChangeFeed feed = Feeds.withReader();
            for (int i = 0; i < 5; i++) {
                feed.set(0, 10 * i);
                feed.snapshot();
            }
            for (int i = 0; i < 4; i++) {
                feed.load(0, i);
                DUE.is("the view of snapshot " + i, feed.view(0, 0), 40 - 10 * i);
            }
        });
        load.says("Returns its place then", () -> {
            ChangeFeed feed = withTwoSnapshots();
            DUE.is("the latest", feed.load(0, 0), 2);
            DUE.is("the one before", feed.load(0, 1), 1);
            ChangeFeed empty = Feeds.withReader();
            empty.snapshot();
            DUE.is("that of nothing", empty.load(0, 0), 0);
        });
        load.says("NO_SUCH if there is no such reader or snapshot", () -> {
            noSuchReader((feed, reader) -> feed.load(reader, 0));
            ChangeFeed none = Feeds.withReader();
            DUE.refuses("before one is made", none, () -> none.load(0, 0), ChangeFeed.NO_SUCH);
            ChangeFeed two = withTwoSnapshots();
            for (int wrong : Feeds.wrongNumbers(2, 3, 4)) {
                DUE.refuses("of two, snapshot " + wrong, two, () -> two.load(0, wrong), ChangeFeed.NO_SUCH);
                DUE.refuses("no reader, too " + wrong, two, () -> two.load(1, wrong), ChangeFeed.NO_SUCH);
            }
            ChangeFeed six = Feeds.withReader();
            for (int i = 0; i < 6; i++) {
                six.snapshot();
            }
            DUE.refuses("of six, the fifth is not kept", six, () -> six.load(0, 4), ChangeFeed.NO_SUCH);
            DUE.is("the fourth is", six.load(0, 3), 0);
        });
        load.says("NOT_POSSIBLE if it would be late then.", () -> {
            ChangeFeed feed = Feeds.quickToThin();
            feed.reader();
            feed.snapshot();
            feed.set(0, 1);
            feed.snapshot();
            feed.remove(0);
            feed.snapshot();
            feed.pass(1);
            feed.thin();
            DUE.is("the floor", feed.count(4), 2);
            DUE.refuses("no reader, too", feed, () -> feed.load(1, 1), ChangeFeed.NO_SUCH);
            DUE.refuses("below the floor", feed, () -> feed.load(0, 1), ChangeFeed.NOT_POSSIBLE);
            DUE.is("at the floor", feed.load(0, 0), 2);
            DUE.is("number 0 is never late", feed.load(0, 2), 0);
            ChangeFeed late = Feeds.withLateReader();
            late.snapshot();
            DUE.is("one that is late, but would not be then", late.load(0, 0), 3);
        });
        load.end();
    }
}
