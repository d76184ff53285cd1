/** Promises 14 to 19: what there is. */
public final class QueriesTest {
    private static final Due DUE = new Due("QueriesTest");

    public static void main(String[] args) {
        table();
        view();
        entry();
        closedEntries();
        ofReader();
        ofSnapshot();
        count();
        nothingChanges();
        DUE.end();
    }

    private static void table() {
        ChangeFeed feed = new ChangeFeed();
        feed.set(0, 0);
        feed.set(11, 999);
        feed.set(4, 4);
        feed.remove(4);
        DUE.is("14: 0", feed.table(0), 0);
        DUE.is("14: 999", feed.table(11), 999);
        DUE.is("14: removed", feed.table(4), ChangeFeed.NONE);
        DUE.is("14: never set", feed.table(5), ChangeFeed.NONE);
        for (int wrong : Due.wrongNumbers(12)) {
            DUE.is("14: key " + wrong, feed.table(wrong), ChangeFeed.NO_SUCH);
        }
    }

    private static void view() {
        ChangeFeed feed = new ChangeFeed();
        feed.reader();
        feed.reader();
        feed.set(11, 7);
        feed.read(1, 1);
        DUE.is("15: read", feed.view(1, 11), 7);
        DUE.is("15: not read", feed.view(0, 11), ChangeFeed.NONE);
        DUE.is("15: no value", feed.view(1, 0), ChangeFeed.NONE);
        for (int wrong : Due.wrongNumbers(12)) {
            DUE.is("15: key " + wrong, feed.view(0, wrong), ChangeFeed.NO_SUCH);
            DUE.is("15: reader " + wrong, feed.view(wrong, 0), ChangeFeed.NO_SUCH);
        }
        DUE.is("15: a reader to come", feed.view(2, 0), ChangeFeed.NO_SUCH);
    }

    private static void entry() {
        ChangeFeed feed = new ChangeFeed();
        feed.turn(ChangeFeed.SIZE, 2);
        feed.set(3, 30);
        feed.pass(5);
        feed.set(4, 40);
        feed.set(3, 31);
        feed.pass(6);
        feed.remove(4);
        feed.set(5, 50);
        int[][] due = {
            {0, 3, 30, 0, 0, 1}, {1, 4, 40, 5, 0, 1}, {2, 3, 31, 5, 1, 1},
            {3, 4, ChangeFeed.NONE, 11, 1, 1}, {4, 5, 50, 11, 1, 0}};
        for (int i = 0; i < due.length; i++) {
            for (int what = 0; what < 6; what++) {
                DUE.is("16: entry(" + i + ", " + what + ")", feed.entry(i, what), due[i][what]);
            }
        }
        for (int wrong : Due.wrongNumbers(5, 60)) {
            DUE.is("16: entry " + wrong, feed.entry(wrong, 0), ChangeFeed.NO_SUCH);
            DUE.is("16: entry ahead of what " + wrong, feed.entry(wrong, 6), ChangeFeed.NO_SUCH);
        }
        for (int wrong : Due.wrongNumbers(6)) {
            DUE.is("16: what " + wrong, feed.entry(0, wrong), ChangeFeed.BAD_VALUE);
        }
        feed.thin();
        DUE.is("16: the first one now", feed.entry(0, 0), 2);
        DUE.is("16: its minute", feed.entry(0, 3), 5);
        DUE.is("16: the third one now", feed.entry(2, 1), 5);
        DUE.is("16: no fourth one", feed.entry(3, 0), ChangeFeed.NO_SUCH);
    }

    private static void closedEntries() {
        ChangeFeed feed = new ChangeFeed();
        for (int i = 0; i < 5; i++) {
            DUE.is("16: closed only by the next number", i == 0 ? 0 : feed.entry(0, 5), 0);
            feed.set(i, i);
        }
        DUE.is("16: closed", feed.entry(4, 5), 1);
        feed.turn(ChangeFeed.SIZE, 6);
        DUE.is("16: open with another size", feed.entry(4, 5), 0);
        feed.turn(ChangeFeed.SIZE, 4);
        DUE.is("16: partly open", feed.entry(3, 5) * 10 + feed.entry(4, 5), 10);
    }

    private static void ofReader() {
        ChangeFeed feed = new ChangeFeed();
        feed.reader();
        feed.set(0, 1);
        feed.set(1, 1);
        feed.set(2, 2);
        feed.read(0, 2);
        feed.confirm(0);
        feed.read(0, 1);
        feed.set(1, 9);
        feed.remove(0);
        int[] due = {3, 2, 2, 0, 3, 3, 7};
        for (int what = 0; what < due.length; what++) {
            DUE.is("17: ofReader(0, " + what + ")", feed.ofReader(0, what), due[what]);
        }
        feed.set(1, 1);
        DUE.is("17: the same value again", feed.ofReader(0, 5), 1);
        for (int wrong : Due.wrongNumbers(7)) {
            DUE.is("17: what " + wrong, feed.ofReader(0, wrong), ChangeFeed.BAD_VALUE);
            DUE.is("17: reader " + wrong, feed.ofReader(wrong, 0), ChangeFeed.NO_SUCH);
            DUE.is("17: reader ahead of what " + wrong, feed.ofReader(1, wrong), ChangeFeed.NO_SUCH);
        }
        feed.turn(ChangeFeed.SIZE, 1);
        feed.turn(ChangeFeed.GRACE, 0);
        feed.pass(1);
        feed.thin();
        DUE.is("17: late", feed.ofReader(0, 3), 1);
        DUE.is("17: ahead of a late one", feed.ofReader(0, 2), 1);
    }

    private static void ofSnapshot() {
        ChangeFeed feed = new ChangeFeed();
        feed.set(0, 1);
        feed.set(1, 2);
        feed.snapshot();
        feed.set(2, 2);
        feed.remove(0);
        feed.remove(1);
        feed.snapshot();
        DUE.is("18: number", feed.ofSnapshot(1, 0), 2);
        DUE.is("18: keys", feed.ofSnapshot(1, 1), 2);
        DUE.is("18: entries", feed.ofSnapshot(1, 2), 3);
        DUE.is("18: number of the latest", feed.ofSnapshot(0, 0), 5);
        DUE.is("18: keys of the latest", feed.ofSnapshot(0, 1), 1);
        DUE.is("18: entries of the latest", feed.ofSnapshot(0, 2), 0);
        for (int wrong : Due.wrongNumbers(3)) {
            DUE.is("18: what " + wrong, feed.ofSnapshot(0, wrong), ChangeFeed.BAD_VALUE);
            DUE.is("18: snapshot " + wrong, feed.ofSnapshot(wrong, 0), ChangeFeed.NO_SUCH);
            DUE.is("18: snapshot ahead of what " + wrong, feed.ofSnapshot(2, wrong), ChangeFeed.NO_SUCH);
        }
    }

    private static void count() {
        ChangeFeed feed = new ChangeFeed();
        feed.turn(ChangeFeed.SIZE, 1);
        feed.turn(ChangeFeed.GRACE, 3);
        feed.reader();
        feed.reader();
        feed.set(0, 1);
        feed.set(1, 1);
        feed.read(1, 1);
        feed.set(2, 2);
        feed.remove(1);
        feed.snapshot();
        feed.pass(4);
        feed.thin();
        feed.put('h');
        int[] due = {2, 4, 2, 4, 4, 2, 2, 2, 1, 1, 3, 1, 6};
        for (int what = 0; what < due.length; what++) {
            DUE.is("19: count(" + what + ")", feed.count(what), due[what]);
        }
        for (int wrong : Due.wrongNumbers(13)) {
            DUE.is("19: what " + wrong, feed.count(wrong), ChangeFeed.BAD_VALUE);
        }
    }

    private static void nothingChanges() {
        ChangeFeed feed = new ChangeFeed();
        feed.reader();
        feed.set(0, 1);
        feed.snapshot();
        feed.table(0);
        feed.view(0, 0);
        feed.entry(0, 4);
        feed.ofReader(0, 2);
        feed.ofSnapshot(0, 2);
        feed.count(7);
        feed.leftIn(999);
        feed.lateIn(999);
        feed.shortest(0, 0);
        feed.gentlest();
        feed.fault();
        feed.wipe();
        feed.put('h');
        feed.save(0);
        DUE.is("28: these are no changes", feed.count(12), 3);
    }
}
