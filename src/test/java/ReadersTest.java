/** Promises 8 to 13: what readers do. */
public final class ReadersTest {
    private static final Due DUE = new Due("ReadersTest");

    public static void main(String[] args) {
        reader();
        readerWithAFormerNumber();
        read();
        readAnEmptyFeed();
        readPastWhatWent();
        lateReaders();
        lateAmidTheCall();
        confirmAndGoBack();
        beginAnew();
        load();
        loadWouldBeLate();
        wrongReaders();
        DUE.end();
    }

    private static ChangeFeed withReader() {
        ChangeFeed feed = new ChangeFeed();
        feed.reader();
        return feed;
    }

    private static void reader() {
        ChangeFeed feed = new ChangeFeed();
        feed.set(0, 1);
        for (int i = 0; i < 6; i++) {
            DUE.is("8: number", feed.reader(), i);
            DUE.is("8: place", feed.ofReader(i, 0), 0);
            DUE.is("8: confirmed place", feed.ofReader(i, 1), 0);
            DUE.is("8: view", feed.view(i, 0), ChangeFeed.NONE);
            DUE.is("8: entries read", feed.ofReader(i, 4), 0);
        }
        DUE.is("8: undos", feed.count(12), 6);
        DUE.is("8: the seventh", feed.reader(), ChangeFeed.TOO_MANY);
        DUE.is("8: readers", feed.count(6), 6);
    }

    private static void readerWithAFormerNumber() {
        ChangeFeed again = new ChangeFeed();
        again.save(0);
        again.reader();
        again.set(0, 1);
        again.read(0, 1);
        again.confirm(0);
        again.restore(0);
        DUE.is("8: after restore", again.reader(), 0);
        DUE.is("8: nothing of the former one", again.ofReader(0, 0) + again.ofReader(0, 1) + again.ofReader(0, 4), 0);
        DUE.is("8: no view of the former one", again.view(0, 0), ChangeFeed.NONE);
        again.goBack(0);
        DUE.is("8: no confirmed view of the former one", again.view(0, 0), ChangeFeed.NONE);
    }

    private static void read() {
        ChangeFeed feed = withReader();
        feed.set(0, 10);
        feed.set(1, 11);
        feed.set(0, 12);
        feed.remove(1);
        DUE.is("9: one", feed.read(0, 1), 1);
        DUE.is("9: its view", feed.view(0, 0), 10);
        DUE.is("9: its place", feed.ofReader(0, 0), 1);
        DUE.is("9: two more", feed.read(0, 2), 2);
        DUE.is("9: the view then", feed.view(0, 0), 12);
        DUE.is("9: the other key", feed.view(0, 1), 11);
        DUE.is("9: up to the end", feed.read(0, 99), 1);
        DUE.is("9: a removal", feed.view(0, 1), ChangeFeed.NONE);
        DUE.is("9: caught up", feed.read(0, 1), 0);
        DUE.is("9: read so far", feed.ofReader(0, 4), 4);
        DUE.is("9: not confirmed", feed.ofReader(0, 1), 0);
        for (int wrong : Due.wrongNumbers(0, 100)) {
            DUE.is("9: many " + wrong, feed.read(0, wrong), ChangeFeed.BAD_VALUE);
            DUE.is("9: reader ahead of many " + wrong, feed.read(1, wrong), ChangeFeed.NO_SUCH);
        }
        DUE.is("9: undos", feed.count(12), 6);
    }

    private static void readAnEmptyFeed() {
        ChangeFeed feed = withReader();
        DUE.is("9: an empty feed", feed.read(0, 99), 0);
        DUE.is("9: it is a change", feed.count(12), 2);
        DUE.is("9: the place", feed.ofReader(0, 0), 0);
    }

    private static void readPastWhatWent() {
        ChangeFeed feed = withReader();
        feed.turn(ChangeFeed.SIZE, 2);
        feed.set(0, 1);
        feed.set(0, 2);
        feed.set(0, 3);
        feed.set(1, 4);
        feed.thin();
        DUE.is("9: what is left", feed.read(0, 1), 1);
        DUE.is("9: the place behind it", feed.ofReader(0, 0), 3);
        DUE.is("9: one ahead", feed.ofReader(0, 2), 1);
    }

    private static ChangeFeed withFloor() {
        ChangeFeed feed = withReader();
        feed.turn(ChangeFeed.SIZE, 1);
        feed.turn(ChangeFeed.GRACE, 0);
        feed.set(0, 1);
        feed.set(1, 1);
        return feed;
    }

    private static void lateReaders() {
        ChangeFeed feed = withFloor();
        feed.read(0, 1);
        feed.confirm(0);
        feed.read(0, 1);
        feed.remove(0);
        feed.reader();
        feed.read(1, 3);
        feed.reader();
        feed.pass(1);
        feed.thin();
        DUE.is("9: the floor", feed.count(4), 3);
        DUE.is("9: below the floor", feed.read(0, 1), ChangeFeed.NOT_POSSIBLE);
        DUE.is("9: bad ahead of late", feed.read(0, 0), ChangeFeed.BAD_VALUE);
        DUE.is("9: at the floor", feed.read(1, 1), 0);
        DUE.is("9: at place 0", feed.read(2, 1), 1);
        DUE.is("9: late then", feed.ofReader(2, 3), 1);
        DUE.is("9: late ones", feed.count(7), 5);
        DUE.is("10: a late one confirms", feed.confirm(2), 2);
        DUE.is("11: a late one goes back", feed.goBack(0), 1);
        DUE.is("12: a late one begins anew", feed.beginAnew(0), 1);
        DUE.is("9: and reads", feed.read(0, 1), 1);
    }

    private static void lateAmidTheCall() {
        ChangeFeed feed = withFloor();
        feed.set(2, 2);
        feed.remove(0);
        feed.pass(1);
        feed.set(3, 3);
        feed.thin();
        DUE.is("9: the floor", feed.count(4), 4);
        DUE.is("9: on, though late amid the call", feed.read(0, 2), 2);
        DUE.is("9: late after it", feed.read(0, 1), ChangeFeed.NOT_POSSIBLE);
        feed.reader();
        DUE.is("9: past the floor", feed.read(1, 99), 3);
        DUE.is("9: not late after that", feed.ofReader(1, 3), 0);
    }

    private static void confirmAndGoBack() {
        ChangeFeed feed = withReader();
        feed.set(0, 1);
        feed.set(0, 2);
        feed.read(0, 1);
        DUE.is("10: place", feed.confirm(0), 1);
        DUE.is("10: confirmed place", feed.ofReader(0, 1), 1);
        feed.read(0, 1);
        DUE.is("10: confirmed view", feed.ofReader(0, 6), 1);
        DUE.is("10: view", feed.ofReader(0, 5), 0);
        DUE.is("11: place", feed.goBack(0), 1);
        DUE.is("11: view", feed.view(0, 0), 1);
        DUE.is("11: undos", feed.count(12), 6);
        DUE.is("11: read again", feed.read(0, 9), 1);
        DUE.is("11: read so far", feed.ofReader(0, 4), 3);
        DUE.is("11: view then", feed.view(0, 0), 2);
        DUE.is("11: confirmed one stays", feed.ofReader(0, 6), 1);
        feed.confirm(0);
        DUE.is("11: back to the later one", feed.goBack(0), 2);
    }

    private static void beginAnew() {
        ChangeFeed feed = withReader();
        feed.set(0, 1);
        feed.set(1, 2);
        feed.read(0, 2);
        feed.confirm(0);
        DUE.is("12: entries ahead", feed.beginAnew(0), 2);
        DUE.is("12: place", feed.ofReader(0, 0), 0);
        DUE.is("12: confirmed place", feed.ofReader(0, 1), 0);
        DUE.is("12: view", feed.ofReader(0, 5), 3);
        DUE.is("12: confirmed view", feed.ofReader(0, 6), 3);
        DUE.is("12: read so far", feed.ofReader(0, 4), 2);
        feed.goBack(0);
        DUE.is("12: nothing to go back to", feed.view(0, 0), ChangeFeed.NONE);
    }

    private static void load() {
        ChangeFeed feed = withReader();
        feed.set(0, 1);
        feed.snapshot();
        feed.set(1, 2);
        feed.snapshot();
        feed.remove(0);
        feed.set(2, 3);
        feed.read(0, 9);
        DUE.is("13: the older one", feed.load(0, 1), 1);
        DUE.is("13: its view", feed.ofReader(0, 5), 7);
        DUE.is("13: its confirmed view", feed.ofReader(0, 6), 7);
        DUE.is("13: the latest one", feed.load(0, 0), 2);
        DUE.is("13: place", feed.ofReader(0, 0), 2);
        DUE.is("13: confirmed place", feed.ofReader(0, 1), 2);
        DUE.is("13: view of a key", feed.view(0, 1), 2);
        feed.read(0, 1);
        DUE.is("13: back to it", feed.goBack(0), 2);
        DUE.is("13: with its view", feed.view(0, 0), 1);
        DUE.is("13: read so far", feed.ofReader(0, 4), 5);
        for (int wrong : Due.wrongNumbers(2, 3, 4)) {
            DUE.is("13: snapshot " + wrong, feed.load(0, wrong), ChangeFeed.NO_SUCH);
        }
        DUE.is("13: the snapshot is no part of a reader", feed.ofSnapshot(0, 1), 2);
    }

    private static void loadWouldBeLate() {
        ChangeFeed feed = withFloor();
        feed.undo();
        feed.undo();
        feed.snapshot();
        feed.set(0, 1);
        feed.snapshot();
        feed.remove(0);
        feed.snapshot();
        feed.pass(1);
        feed.thin();
        DUE.is("13: floor", feed.count(4), 2);
        DUE.is("13: late then", feed.load(0, 1), ChangeFeed.NOT_POSSIBLE);
        DUE.is("13: at the floor", feed.load(0, 0), 2);
        DUE.is("13: number 0 is never late", feed.load(0, 2), 0);
        DUE.is("13: no such reader ahead of late", feed.load(1, 1), ChangeFeed.NO_SUCH);
    }

    private static void wrongReaders() {
        ChangeFeed feed = withReader();
        feed.snapshot();
        for (int wrong : Due.wrongNumbers(1, 5, 6)) {
            DUE.is("9: reader " + wrong, feed.read(wrong, 1), ChangeFeed.NO_SUCH);
            DUE.is("10: reader " + wrong, feed.confirm(wrong), ChangeFeed.NO_SUCH);
            DUE.is("11: reader " + wrong, feed.goBack(wrong), ChangeFeed.NO_SUCH);
            DUE.is("12: reader " + wrong, feed.beginAnew(wrong), ChangeFeed.NO_SUCH);
            DUE.is("13: reader " + wrong, feed.load(wrong, 0), ChangeFeed.NO_SUCH);
        }
        DUE.is("13: errors record nothing", feed.count(12), 2);
        feed.confirm(0);
        DUE.is("10: undos", feed.count(12), 3);
        feed.goBack(0);
        DUE.is("11: undos", feed.count(12), 4);
        feed.beginAnew(0);
        DUE.is("12: undos", feed.count(12), 5);
        feed.load(0, 0);
        DUE.is("13: undos", feed.count(12), 6);
    }
}
