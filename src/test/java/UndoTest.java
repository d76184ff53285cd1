/** Promises 28 to 30, sentence by sentence: undo, save, restore. */
public final class UndoTest {
    private static final Due DUE = new Due("UndoTest");

    public static void main(String[] args) {
        undo();
        save();
        restore();
        DUE.end();
    }

    private static void undo() {
        Section undo = new Section(DUE, "Promise 28: undo");
        undo.says("Undoes the latest change", () -> {
            ChangeFeed feed = new ChangeFeed();
            feed.set(0, 1);
            feed.set(0, 2);
            feed.set(0, 3);
            feed.undo();
            DUE.is("the third", feed.table(0), 2);
            feed.set(1, 4);
            feed.undo();
            DUE.is("a later one", feed.table(1), ChangeFeed.NONE);
            DUE.is("the second one stays", feed.table(0), 2);
            feed.undo();
            DUE.is("the second", feed.table(0), 1);
            feed.undo();
            DUE.is("the first", feed.table(0), ChangeFeed.NONE);
        });
        undo.says(": everything except the pad, the slots and the history is as it was before it.", () -> {
            for (int i = 0; i < Feeds.CHANGES; i++) {
                int which = i;
                ChangeFeed feed = Feeds.started();
                String before = Feeds.told(feed);
                Feeds.change(feed, which);
                DUE.holds("the change " + which + " shows", !Feeds.told(feed).equals(before));
                feed.undo();
                DUE.holds("the change " + which + " is undone", Feeds.told(feed).equals(before));
                DUE.isAChange("the change " + which, feed, () -> Feeds.change(feed, which));
            }
            ChangeFeed feed = new ChangeFeed();
            feed.set(0, 1);
            feed.undo();
            DUE.is("the next number, too", feed.count(1), 0);
            DUE.is("so it is given again", feed.set(0, 2), 0);
        });
        undo.says("except the pad", () -> {
            ChangeFeed feed = new ChangeFeed();
            feed.put('h');
            feed.set(0, 1);
            feed.put(';');
            feed.undo();
            DUE.is("what was put behind the change", feed.count(11), 2);
            feed.put('h');
            feed.carryOut();
            feed.undo();
            DUE.is("it stays empty", feed.count(11), 0);
            DUE.is("with its fault", feed.fault(), 0);
        });
        undo.says("the slots", () -> {
            ChangeFeed feed = new ChangeFeed();
            feed.set(0, 1);
            feed.set(0, 2);
            feed.save(0);
            feed.undo();
            feed.undo();
            DUE.is("what was saved", feed.restore(0), 2);
            DUE.is("its table", feed.table(0), 2);
            DUE.is("its next number", feed.count(1), 2);
        });
        undo.says("A history of at most 6 states is kept", () -> {
            ChangeFeed feed = new ChangeFeed();
            for (int i = 0; i < 20; i++) {
                DUE.is("behind " + i + " changes", feed.count(12), Math.min(i, 6));
                feed.set(0, i);
            }
            int undone = 0;
            while (undone < 20 && feed.undo() >= 0) {
                undone++;
            }
            DUE.is("undone", undone, 6);
        });
        undo.says(": each method that is a change, and returns no error, records the state before it", () -> {
            for (int i = 0; i < Feeds.CHANGES; i++) {
                ChangeFeed feed = Feeds.started();
                feed.undo();
                DUE.holds("no error by the change " + i, Feeds.change(feed, i) >= 0);
                DUE.is("it is recorded", feed.count(12), 6);
            }
            ChangeFeed feed = Feeds.full();
            feed.set(12, 0);
            feed.set(0, 1000);
            feed.set(0, 0);
            feed.remove(0);
            feed.pass(0);
            feed.read(0, 1);
            feed.restore(0);
            DUE.is("errors amid a full history drop nothing", feed.undo(), 5);
            DUE.is("the latest change is undone", feed.count(0), 59);
            for (int left = 4; left >= 0; left--) {
                DUE.is("undone", feed.undo(), left);
                DUE.is("entries", feed.count(0), 54 + left);
            }
        });
        undo.says("(also if nothing is different then)", () -> {
            ChangeFeed feed = Feeds.withReader();
            DUE.isAChange("the same setting", feed, () -> feed.turn(ChangeFeed.SIZE, 5));
            DUE.isAChange("a thinning of nothing", feed, feed::thin);
            DUE.isAChange("reading nothing", feed, () -> feed.read(0, 1));
            DUE.isAChange("confirming the same", feed, () -> feed.confirm(0));
            DUE.isAChange("going back to the same", feed, () -> feed.goBack(0));
            DUE.isAChange("beginning anew at the beginning", feed, () -> feed.beginAnew(0));
            feed.save(0);
            DUE.isAChange("restoring the same", feed, () -> feed.restore(0));
        });
        undo.says("; when one more is recorded, the oldest one is dropped.", () -> {
            ChangeFeed feed = new ChangeFeed();
            for (int i = 0; i < 9; i++) {
                feed.set(0, i);
            }
            for (int left = 5; left >= 0; left--) {
                feed.undo();
                DUE.is("the value before", feed.table(0), left + 2);
                DUE.is("the next number before", feed.count(1), left + 3);
            }
            DUE.is("no older one", feed.undo(), ChangeFeed.NOT_POSSIBLE);
            for (int i = 0; i < 7; i++) {
                feed.pass(1);
            }
            for (int i = 0; i < 6; i++) {
                feed.undo();
            }
            DUE.is("again from the oldest one that is kept", feed.count(3), 1);
        });
        undo.says("An order of a text records nothing by itself.", () -> {
            ChangeFeed feed = new ChangeFeed();
            feed.set(0, 1);
            Feeds.carriedOut(feed, "p0=2;p0=3;n;r0*1;c0;b0;s;l0@0;x0;t5;h");
            DUE.is("two changes", feed.count(12), 2);
            feed.undo();
            DUE.is("eleven orders are undone at once", feed.table(0), 1);
            DUE.is("one is left", feed.count(12), 1);
        });
        undo.says("Returns how many changes can be undone then", () -> {
            ChangeFeed feed = new ChangeFeed();
            for (int i = 0; i < 3; i++) {
                feed.pass(1);
            }
            for (int left = 2; left >= 0; left--) {
                DUE.is("then", feed.undo(), left);
                DUE.is("as it is counted", feed.count(12), left);
            }
            for (int i = 0; i < 7; i++) {
                feed.pass(1);
            }
            DUE.is("of a full history", feed.undo(), 5);
        });
        undo.says("NOT_POSSIBLE if there is none.", () -> {
            ChangeFeed none = new ChangeFeed();
            DUE.refuses("at first", none, none::undo, ChangeFeed.NOT_POSSIBLE);
            none.set(0, -1);
            none.save(0);
            none.put('h');
            DUE.refuses("behind what is no change", none, none::undo, ChangeFeed.NOT_POSSIBLE);
            none.set(0, 1);
            none.undo();
            DUE.refuses("behind the last one", none, none::undo, ChangeFeed.NOT_POSSIBLE);
        });
        undo.end();
    }

    private static void changeInEachWay(ChangeFeed feed) {
        for (int which = 0; which < Feeds.CHANGES; which++) {
            Feeds.change(feed, which);
        }
    }

    private static void save() {
        Section save = new Section(DUE, "Promise 29: save");
        save.says("Saves everything", () -> {
            ChangeFeed feed = Feeds.started();
            String saved = Feeds.told(feed);
            feed.save(0);
            DUE.holds("nothing changes", Feeds.told(feed).equals(saved));
            changeInEachWay(feed);
            feed.restore(0);
            DUE.holds("all of it", Feeds.told(feed).equals(saved));
        });
        save.says("except the pad, the history and the slots in a slot", () -> {
            ChangeFeed feed = new ChangeFeed();
            feed.put('h');
            feed.set(0, 1);
            feed.save(0);
            DUE.is("it is no change", feed.count(12), 1);
            feed.set(0, 2);
            feed.save(1);
            feed.put(';');
            feed.set(0, 3);
            feed.restore(0);
            DUE.is("the pad", feed.count(11), 2);
            DUE.is("the history", feed.count(12), 4);
            DUE.is("the other slot", feed.restore(1), 2);
            DUE.is("what was saved there later", feed.table(0), 2);
        });
        save.says(", and overwrites what was saved there.", () -> {
            ChangeFeed feed = Feeds.started();
            feed.save(1);
            changeInEachWay(feed);
            String later = Feeds.told(feed);
            feed.save(1);
            feed.undo();
            feed.restore(1);
            DUE.holds("the later one", Feeds.told(feed).equals(later));
            ChangeFeed fewer = Feeds.full();
            fewer.reader();
            fewer.snapshot();
            fewer.save(0);
            ChangeFeed empty = new ChangeFeed();
            empty.save(0);
            empty.reader();
            empty.snapshot();
            empty.set(0, 1);
            empty.save(1);
            empty.restore(0);
            empty.save(1);
            empty.set(0, 2);
            empty.restore(1);
            DUE.holds("with less than before", Feeds.told(empty).equals(Feeds.told(new ChangeFeed())));
        });
        save.says("`slot`: 0 or 1", () -> {
            ChangeFeed feed = new ChangeFeed();
            DUE.is("0", feed.save(0), 0);
            feed.set(0, 1);
            DUE.is("1", feed.save(1), 1);
            feed.restore(0);
            DUE.is("they are apart", feed.count(0), 0);
        });
        save.says("Returns how many entries are in the feed", () -> {
            ChangeFeed full = Feeds.full();
            DUE.is("sixty", full.save(0), 60);
            full.thin();
            DUE.is("twelve", full.save(0), 12);
            DUE.is("none", new ChangeFeed().save(1), 0);
        });
        save.says("BAD_VALUE if there is no such slot.", () -> {
            ChangeFeed feed = Feeds.started();
            for (int wrong : Feeds.wrongNumbers(2, 3)) {
                DUE.refuses("slot " + wrong, feed, () -> feed.save(wrong), ChangeFeed.BAD_VALUE);
            }
            DUE.is("nothing is saved by it in 0", feed.restore(0), ChangeFeed.NOT_POSSIBLE);
            DUE.is("nor in 1", feed.restore(1), ChangeFeed.NOT_POSSIBLE);
        });
        save.end();
    }

    private static void restore() {
        Section restore = new Section(DUE, "Promise 30: restore");
        restore.says("Restores what was saved last in a slot", () -> {
            ChangeFeed feed = Feeds.started();
            String first = Feeds.told(feed);
            feed.save(0);
            changeInEachWay(feed);
            String second = Feeds.told(feed);
            feed.save(1);
            feed.put('h');
            feed.restore(0);
            DUE.holds("of slot 0", Feeds.told(feed).equals(first));
            feed.restore(1);
            DUE.holds("of slot 1", Feeds.told(feed).equals(second));
            DUE.is("the pad stays", feed.count(11), 1);
            ChangeFeed again = new ChangeFeed();
            again.save(0);
            again.set(0, 1);
            again.restore(0);
            DUE.is("the next number, too", again.set(0, 2), 0);
        });
        restore.says(", which keeps it.", () -> {
            ChangeFeed feed = Feeds.started();
            String saved = Feeds.told(feed);
            feed.save(0);
            for (int i = 0; i < 3; i++) {
                changeInEachWay(feed);
                feed.restore(0);
                DUE.holds("as it was", Feeds.told(feed).equals(saved));
            }
        });
        restore.says("This is a change.", () -> {
            ChangeFeed feed = new ChangeFeed();
            feed.save(1);
            feed.set(0, 1);
            DUE.isAChange("to the empty feed", feed, () -> feed.restore(1));
            ChangeFeed full = Feeds.started();
            full.save(0);
            full.set(0, 5);
            DUE.isAChange("in a full history", full, () -> full.restore(0));
        });
        restore.says("`slot`: 0 or 1", () -> {
            ChangeFeed feed = new ChangeFeed();
            feed.set(0, 7);
            feed.save(0);
            feed.set(0, 8);
            feed.save(1);
            feed.restore(0);
            DUE.is("0", feed.table(0), 7);
            feed.restore(1);
            DUE.is("1", feed.table(0), 8);
        });
        restore.says("Returns how many entries are in the feed then", () -> {
            ChangeFeed feed = new ChangeFeed();
            feed.save(0);
            feed.set(0, 1);
            feed.set(0, 2);
            feed.save(1);
            DUE.is("none", feed.restore(0), 0);
            DUE.is("two", feed.restore(1), 2);
            ChangeFeed full = Feeds.full();
            full.save(0);
            full.thin();
            DUE.is("sixty", full.restore(0), 60);
        });
        restore.says("BAD_VALUE if there is no such slot", () -> {
            ChangeFeed feed = Feeds.started();
            feed.save(0);
            feed.save(1);
            for (int wrong : Feeds.wrongNumbers(2, 3)) {
                DUE.refuses("slot " + wrong, feed, () -> feed.restore(wrong), ChangeFeed.BAD_VALUE);
            }
        });
        restore.says("NOT_POSSIBLE if nothing was saved in it.", () -> {
            ChangeFeed feed = Feeds.started();
            DUE.refuses("slot 0", feed, () -> feed.restore(0), ChangeFeed.NOT_POSSIBLE);
            DUE.refuses("slot 1", feed, () -> feed.restore(1), ChangeFeed.NOT_POSSIBLE);
            feed.save(0);
            DUE.refuses("only the other one is saved", feed, () -> feed.restore(1), ChangeFeed.NOT_POSSIBLE);
            feed.undo();
            DUE.holds("undo empties no slot", feed.restore(0) >= 0);
        });
        restore.end();
    }
}
