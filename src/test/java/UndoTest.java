/** Promises 28 to 30: undo, save, restore. */
public final class UndoTest {
    private static final Due DUE = new Due("UndoTest");

    public static void main(String[] args) {
        undoEachChange();
        undoSixAtMost();
        undoAfterUndo();
        undoKeepsPadAndSlots();
        saveAndRestore();
        restoreIsAChange();
        slotsAreCopies();
        wrongSlots();
        DUE.end();
    }

    /** All that can be asked for about the state, in one row. */
    private static String told(ChangeFeed feed) {
        StringBuilder told = new StringBuilder();
        for (int what = 0; what <= 10; what++) {
            told.append(feed.count(what)).append(' ');
        }
        for (int key = 0; key < 12; key++) {
            told.append(feed.table(key)).append(' ');
        }
        for (int i = 0; i < feed.count(0); i++) {
            for (int what = 0; what < 6; what++) {
                told.append(feed.entry(i, what)).append(' ');
            }
        }
        for (int i = 0; i < feed.count(6); i++) {
            for (int what = 0; what < 7; what++) {
                told.append(feed.ofReader(i, what)).append(' ');
            }
        }
        for (int i = 0; i < feed.count(8); i++) {
            for (int what = 0; what < 3; what++) {
                told.append(feed.ofSnapshot(i, what)).append(' ');
            }
        }
        return told.toString();
    }

    private static ChangeFeed started() {
        ChangeFeed feed = new ChangeFeed();
        feed.turn(ChangeFeed.SIZE, 2);
        feed.turn(ChangeFeed.GRACE, 3);
        feed.reader();
        feed.set(0, 1);
        feed.set(0, 2);
        feed.snapshot();
        feed.set(1, 1);
        feed.remove(1);
        feed.pass(4);
        feed.set(2, 1);
        feed.read(0, 2);
        return feed;
    }

    private static void change(ChangeFeed feed, int which) {
        switch (which) {
            case 0: feed.turn(ChangeFeed.SIZE, 9); break;
            case 1: feed.turn(ChangeFeed.GRACE, 9); break;
            case 2: feed.set(3, 3); break;
            case 3: feed.remove(0); break;
            case 4: feed.pass(9); break;
            case 5: feed.thin(); break;
            case 6: feed.snapshot(); break;
            case 7: feed.reader(); break;
            case 8: feed.read(0, 1); break;
            case 9: feed.confirm(0); break;
            case 10: feed.goBack(0); break;
            case 11: feed.beginAnew(0); break;
            case 12: feed.load(0, 0); break;
            default: Due.carriedOut(feed, "p0=9;x0;n;r1*2;c1;s;t9;h"); break;
        }
    }

    private static void undoEachChange() {
        for (int which = 0; which < 14; which++) {
            ChangeFeed feed = started();
            String before = told(feed);
            change(feed, which);
            DUE.holds("28: change " + which + " shows", !told(feed).equals(before));
            DUE.is("28: undo of change " + which, feed.undo(), 5);
            DUE.holds("28: change " + which + " is undone", told(feed).equals(before));
        }
    }

    private static void undoSixAtMost() {
        ChangeFeed feed = new ChangeFeed();
        for (int i = 0; i < 9; i++) {
            feed.set(0, i);
            DUE.is("28: undos", feed.count(12), Math.min(i + 1, 6));
        }
        DUE.is("28: an error amid a full history", feed.remove(5), ChangeFeed.NOT_POSSIBLE);
        DUE.is("28: drops nothing", feed.count(12), 6);
        for (int left = 5; left >= 0; left--) {
            DUE.is("28: undo", feed.undo(), left);
            DUE.is("28: the value before", feed.table(0), left + 2);
            DUE.is("28: the next number before", feed.count(1), left + 3);
        }
        DUE.is("28: none left", feed.undo(), ChangeFeed.NOT_POSSIBLE);
        DUE.is("28: it stays", feed.table(0), 2);
        DUE.is("28: the number again", feed.set(0, 1), 3);
    }

    private static void undoAfterUndo() {
        ChangeFeed feed = new ChangeFeed();
        feed.set(0, 1);
        feed.set(0, 2);
        feed.set(0, 3);
        feed.undo();
        feed.set(1, 4);
        DUE.is("28: the new one", feed.undo(), 2);
        DUE.is("28: the table of before", feed.table(0), 2);
        DUE.is("28: then the second one", feed.undo(), 1);
        DUE.is("28: the table of before that", feed.table(0), 1);
        feed.remove(5);
        DUE.is("28: an error records nothing", feed.count(12), 1);
        feed.turn(ChangeFeed.SIZE, 5);
        DUE.is("28: the same setting records", feed.count(12), 2);
        feed.thin();
        DUE.is("28: a thinning of nothing records", feed.count(12), 3);
    }

    private static void undoKeepsPadAndSlots() {
        ChangeFeed feed = new ChangeFeed();
        feed.set(0, 1);
        feed.set(0, 2);
        feed.save(0);
        feed.put('h');
        feed.undo();
        DUE.is("28: the pad", feed.count(11), 1);
        DUE.is("28: the slot", feed.restore(0), 2);
        DUE.is("28: what was saved", feed.table(0), 2);
    }

    private static void saveAndRestore() {
        ChangeFeed feed = started();
        String saved = told(feed);
        DUE.is("29: entries", feed.save(0), 5);
        DUE.is("29: undos", feed.count(12), 6);
        for (int which = 0; which < 14; which++) {
            change(feed, which);
        }
        int here = feed.count(0);
        String other = told(feed);
        DUE.is("29: the other slot", feed.save(1), here);
        feed.put('h');
        DUE.is("30: entries then", feed.restore(0), 5);
        DUE.holds("30: as it was", told(feed).equals(saved));
        DUE.is("30: the pad stays", feed.count(11), 1);
        DUE.is("30: the other one", feed.restore(1), here);
        DUE.holds("30: as it was there", told(feed).equals(other));
        DUE.is("30: kept", feed.restore(0), 5);
        feed.set(0, 77);
        DUE.is("29: overwritten", feed.save(0), 6);
        DUE.is("30: the one that was saved last", feed.restore(0) * 1000 + feed.table(0), 6077);
    }

    private static void restoreIsAChange() {
        ChangeFeed feed = new ChangeFeed();
        feed.save(1);
        feed.set(0, 1);
        DUE.is("29: no change", feed.count(12), 1);
        DUE.is("30: nothing then", feed.restore(1), 0);
        DUE.is("30: a change", feed.count(12), 2);
        DUE.is("30: table", feed.table(0), ChangeFeed.NONE);
        DUE.is("30: undone", feed.undo(), 1);
        DUE.is("30: table before", feed.table(0), 1);
        DUE.is("30: of no slot", feed.restore(0), ChangeFeed.NOT_POSSIBLE);
        DUE.is("30: that is no change", feed.count(12), 1);
    }

    private static void slotsAreCopies() {
        ChangeFeed feed = new ChangeFeed();
        feed.reader();
        feed.set(0, 1);
        feed.snapshot();
        feed.save(0);
        feed.restore(0);
        feed.set(0, 2);
        feed.read(0, 2);
        feed.confirm(0);
        feed.snapshot();
        feed.restore(0);
        DUE.is("30: table", feed.table(0), 1);
        DUE.is("30: reader", feed.ofReader(0, 0) + feed.ofReader(0, 1) + feed.ofReader(0, 4), 0);
        DUE.is("30: view", feed.view(0, 0), ChangeFeed.NONE);
        DUE.is("30: snapshots", feed.count(8) * 10 + feed.ofSnapshot(0, 0), 11);
    }

    private static void wrongSlots() {
        ChangeFeed feed = new ChangeFeed();
        for (int wrong : Due.wrongNumbers(2)) {
            DUE.is("29: slot " + wrong, feed.save(wrong), ChangeFeed.BAD_VALUE);
            DUE.is("30: slot " + wrong, feed.restore(wrong), ChangeFeed.BAD_VALUE);
        }
    }
}
