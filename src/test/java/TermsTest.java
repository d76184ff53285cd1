import java.util.function.IntSupplier;

/** What the document says ahead of its promises, sentence by sentence: conventions, settings and terms. */
public final class TermsTest {
    private static final Due DUE = new Due("TermsTest");

    public static void main(String[] args) {
        whatItIs();
        Section terms = new Section(DUE, "Terms");
        conventions(terms);
        settings(terms);
        tableAndEntries(terms);
        segments(terms);
        readers(terms);
        reading(terms);
        thinning(terms);
        lateReaders(terms);
        snapshots(terms);
        pad(terms);
        orders(terms);
        numbersOfTexts(terms);
        faults(terms);
        constants(terms);
        callsThatTell(terms);
        terms.end();
        DUE.end();
    }

    private static void whatItIs() {
        Section what = new Section(DUE, "What it is");
        what.onlyNames("A feed of changes of a table, with readers at their own places: keys that are set and removed, "
            + "entries that tell it one after the other, readers who read on, confirm and go back, views that they "
            + "make of what they read, thinning that keeps the last entry of each key, removals that are told for a "
            + "while only, readers who are too late for them, snapshots that bring them on again, what a thinning "
            + "would leave, who would be late, the shortest way to catch up, changes that are read from texts, undo, "
            + "and saved states.");
        what.says("An object is used for at most 512 calls after it has been made; what later calls answer is free.",
            () -> {
                ChangeFeed feed = new ChangeFeed();
                feed.turn(ChangeFeed.SIZE, 1);
                for (int i = 0; i < 255; i++) {
                    DUE.is("entry", feed.set(i % 12, i), i);
                    DUE.is("what goes", feed.thin(), i < 12 ? 0 : 1);
                }
                DUE.is("the 512th call", feed.count(5), 243);
            });
        what.end();
    }

    private static void conventions(Section terms) {
        terms.says("CONVENTIONS. A method that fails returns one of the error codes NO_SUCH (-1), BAD_VALUE (-2), "
            + "BAD_TEXT (-3), TOO_MANY (-4) and NOT_POSSIBLE (-5);", () -> {
                ChangeFeed feed = new ChangeFeed();
                DUE.is("no such key", feed.set(12, 0), -1);
                DUE.is("a bad value", feed.set(0, 1000), -2);
                DUE.is("a bad text", feed.carryOut(), -3);
                DUE.is("too many entries", Feeds.full().set(0, 0), -4);
                DUE.is("a removal that is not possible", feed.remove(0), -5);
            });
        terms.says("it names its errors in the order in which they are checked, and the first one that applies is "
            + "returned.", TermsTest::errorsInTheirOrder);
        terms.says("A call that returns an error changes nothing.", TermsTest::errorsChangeNothing);
        terms.says("NONE (-6) is not an error; it is returned only if no error applies.", () -> {
            ChangeFeed feed = Feeds.withReader();
            DUE.is("a key without a value", feed.table(0), -6);
            DUE.is("no such key", feed.table(12), -1);
            DUE.is("a view without a value", feed.view(0, 0), -6);
            DUE.is("no such reader", feed.view(1, 0), -1);
            feed.set(0, 1);
            feed.remove(0);
            DUE.is("an entry without a value", feed.entry(1, 2), -6);
            DUE.is("no such entry", feed.entry(2, 2), -1);
            feed.put('h');
            DUE.is("no fault", feed.fault(), -6);
            DUE.is("it is no number of a key", feed.set(ChangeFeed.NONE, 1), -1);
            DUE.is("nor a value", feed.set(0, ChangeFeed.NONE), -2);
        });
        terms.says("Everything is numbered from 0.", () -> {
            ChangeFeed feed = new ChangeFeed();
            DUE.is("entries", feed.set(0, 5), 0);
            DUE.is("keys", feed.table(0), 5);
            DUE.is("entries of the feed", feed.entry(0, 2), 5);
            DUE.is("readers", feed.reader(), 0);
            feed.snapshot();
            DUE.is("snapshots", feed.ofSnapshot(0, 0), 1);
            DUE.is("settings", feed.turn(0, 5), 5);
            DUE.is("slots", feed.save(0), 1);
            DUE.is("minutes", feed.count(3), 0);
            feed.put('q');
            DUE.is("characters", feed.fault(), 0);
        });
        terms.says("Sets of keys and of readers are bit masks.", () -> {
            ChangeFeed feed = Feeds.quickToThin();
            for (int i = 0; i < 6; i++) {
                feed.reader();
            }
            feed.set(0, 1);
            feed.set(11, 1);
            DUE.is("keys 0 and 11", feed.ofReader(2, 5), 1 + 2048);
            DUE.is("of the confirmed view", feed.ofReader(2, 6), 1 + 2048);
            feed.read(1, 1);
            feed.read(5, 1);
            feed.remove(0);
            DUE.is("readers 1 and 5 would be late", feed.lateIn(1), 2 + 32);
            feed.pass(1);
            feed.thin();
            DUE.is("readers 1 and 5 are", feed.count(7), 2 + 32);
        });
    }

    /** Each pair of errors that one call can meet. */
    private static void errorsInTheirOrder() {
        ChangeFeed full = Feeds.full();
        DUE.is("set: key, value", full.set(12, -1), ChangeFeed.NO_SUCH);
        DUE.is("set: key, full", full.set(12, 1), ChangeFeed.NO_SUCH);
        DUE.is("set: value, full", full.set(0, -1), ChangeFeed.BAD_VALUE);
        DUE.is("remove: key, full", full.remove(-1), ChangeFeed.NO_SUCH);
        ChangeFeed same = new ChangeFeed();
        for (int i = 0; i < 60; i++) {
            same.set(0, i);
        }
        DUE.is("remove: full, no value", same.remove(1), ChangeFeed.TOO_MANY);
        ChangeFeed late = Feeds.withLateReader();
        DUE.is("read: reader, many", late.read(1, 0), ChangeFeed.NO_SUCH);
        DUE.is("read: many, late", late.read(0, 100), ChangeFeed.BAD_VALUE);
        DUE.is("load: reader, snapshot", late.load(1, 0), ChangeFeed.NO_SUCH);
        DUE.is("entry: entry, what", late.entry(1, 6), ChangeFeed.NO_SUCH);
        DUE.is("ofReader: reader, what", late.ofReader(1, 7), ChangeFeed.NO_SUCH);
        DUE.is("ofSnapshot: snapshot, what", late.ofSnapshot(0, 3), ChangeFeed.NO_SUCH);
        DUE.is("shortest: reader, what", late.shortest(1, 2), ChangeFeed.NO_SUCH);
        DUE.is("restore: slot, nothing saved", late.restore(2), ChangeFeed.BAD_VALUE);
        ChangeFeed padded = new ChangeFeed();
        Feeds.write(padded, "h;".repeat(40));
        DUE.is("put: character, full", padded.put(127), ChangeFeed.BAD_VALUE);
        ChangeFeed end = new ChangeFeed();
        for (int i = 0; i < 100; i++) {
            end.pass(999);
        }
        DUE.is("pass: minutes, beyond the last", end.pass(1000), ChangeFeed.BAD_VALUE);
    }

    /** Every error of every method, in the midst of a history of six, with a text and both slots in use. */
    private static void errorsChangeNothing() {
        ChangeFeed feed = withErrorsAhead();
        IntSupplier[] calls = failingCalls(feed);
        for (int i = 0; i < calls.length; i++) {
            String before = Feeds.everything(feed);
            DUE.holds("call " + i + " fails", calls[i].getAsInt() < 0);
            DUE.holds("call " + i + " changes nothing", Feeds.everything(feed).equals(before));
        }
        ChangeFeed twin = withErrorsAhead();
        for (int i = 0; i < 6; i++) {
            DUE.is("what can be undone", feed.undo(), twin.undo());
            DUE.holds("what was before", Feeds.everything(feed).equals(Feeds.everything(twin)));
        }
        for (int slot = 0; slot < 2; slot++) {
            DUE.is("what was saved", feed.restore(slot), twin.restore(slot));
            DUE.holds("as it was saved", Feeds.everything(feed).equals(Feeds.everything(twin)));
        }
    }

    /** Sixty entries, six readers of which the first is late, a snapshot below the floor, a text with a fault. */
    private static ChangeFeed withErrorsAhead() {
        ChangeFeed feed = Feeds.withLateReader();
        feed.save(0);
        feed.undo();
        feed.undo();
        feed.undo();
        feed.snapshot();
        feed.remove(0);
        feed.pass(1);
        feed.thin();
        for (int i = 1; i < 6; i++) {
            feed.reader();
        }
        for (int i = 0; i < 100; i++) {
            feed.pass(999);
        }
        for (int i = 0; i < 59; i++) {
            feed.set(i % 2 + 1, i);
        }
        feed.save(1);
        feed.read(1, 1);
        feed.goBack(1);
        Feeds.write(feed, "h;".repeat(40));
        return feed;
    }

    private static IntSupplier[] failingCalls(ChangeFeed feed) {
        return new IntSupplier[] {
            () -> feed.turn(2, 1), () -> feed.turn(0, 0), () -> feed.turn(0, 21), () -> feed.turn(1, -1),
            () -> feed.turn(1, 1000), () -> feed.set(12, 1), () -> feed.set(-1, 1), () -> feed.set(0, 1000),
            () -> feed.set(0, 1), () -> feed.remove(12), () -> feed.remove(1), () -> feed.remove(0),
            () -> feed.pass(0), () -> feed.pass(1000), () -> feed.pass(99), feed::reader,
            () -> feed.read(6, 1), () -> feed.read(0, 0), () -> feed.read(0, 100), () -> feed.read(0, 1),
            () -> feed.confirm(6), () -> feed.goBack(-1), () -> feed.beginAnew(6), () -> feed.load(6, 0),
            () -> feed.load(0, 1), () -> feed.load(1, 0), () -> feed.put(0), () -> feed.put(127),
            () -> feed.put('h'), feed::carryOut, () -> feed.save(2), () -> feed.restore(2), () -> feed.table(12),
            () -> feed.view(6, 0), () -> feed.entry(60, 0), () -> feed.ofReader(6, 0), () -> feed.ofSnapshot(1, 0),
            () -> feed.count(13), () -> feed.leftIn(1000), () -> feed.lateIn(1000), () -> feed.shortest(6, 0)};
    }

    private static void settings(Section terms) {
        terms.says("(In parentheses: range; first value.) SIZE (1 to 20; 5)", () -> {
            ChangeFeed feed = new ChangeFeed();
            DUE.is("the first value", feed.count(9), 5);
            for (int size = 1; size <= 20; size++) {
                DUE.holds("a size of " + size, feed.turn(ChangeFeed.SIZE, size) >= 1);
                DUE.is("it is set", feed.count(9), size);
            }
            DUE.refuses("a size of 0", feed, () -> feed.turn(ChangeFeed.SIZE, 0), ChangeFeed.BAD_VALUE);
            DUE.refuses("a size of 21", feed, () -> feed.turn(ChangeFeed.SIZE, 21), ChangeFeed.BAD_VALUE);
        });
        terms.says("GRACE (0 to 999; 30).", () -> {
            ChangeFeed feed = new ChangeFeed();
            DUE.is("the first value", feed.count(10), 30);
            int before = 30;
            for (int grace = 0; grace <= 999; grace += 27) {
                DUE.is("a grace of " + grace, feed.turn(ChangeFeed.GRACE, grace), before);
                before = grace;
            }
            DUE.is("the most", feed.count(10), 999);
            DUE.refuses("a grace of -1", feed, () -> feed.turn(ChangeFeed.GRACE, -1), ChangeFeed.BAD_VALUE);
            DUE.refuses("a grace of 1000", feed, () -> feed.turn(ChangeFeed.GRACE, 1000), ChangeFeed.BAD_VALUE);
        });
    }

    private static void tableAndEntries(Section terms) {
        terms.onlyNames("Table, entries");
        terms.says("The table has 12 keys, 0 to 11;", () -> {
            ChangeFeed feed = new ChangeFeed();
            for (int key = 0; key < 12; key++) {
                DUE.is("key " + key, feed.set(key, 1), key);
            }
            DUE.refuses("key 12", feed, () -> feed.set(12, 1), ChangeFeed.NO_SUCH);
            DUE.refuses("key -1", feed, () -> feed.set(-1, 1), ChangeFeed.NO_SUCH);
        });
        terms.says("each has a value (0 to 999) or none (at first none has).", () -> {
            ChangeFeed feed = new ChangeFeed();
            DUE.is("at first", feed.table(7), ChangeFeed.NONE);
            feed.set(7, 0);
            DUE.is("0", feed.table(7), 0);
            feed.set(7, 999);
            DUE.is("999", feed.table(7), 999);
            feed.remove(7);
            DUE.is("none", feed.table(7), ChangeFeed.NONE);
        });
        terms.says("Time is told in minutes, from 0 on.", () -> {
            ChangeFeed feed = new ChangeFeed();
            DUE.is("at first", feed.count(3), 0);
            feed.set(0, 1);
            DUE.is("of the first entry", feed.entry(0, 3), 0);
            DUE.is("one later", feed.pass(1), 1);
        });
        terms.says("Each change of a key is told by an entry of the feed: its number (0, 1, 2, ..: never given again)",
            () -> {
                ChangeFeed feed = Feeds.quickToThin();
                feed.set(0, 1);
                feed.remove(0);
                feed.pass(1);
                DUE.is("both go", feed.thin(), 2);
                DUE.is("the third one's, in an empty feed", feed.set(0, 1), 2);
                DUE.is("as it tells", feed.entry(0, 0), 2);
                feed.set(0, 1);
                feed.thin();
                DUE.is("behind one that stays", feed.set(0, 1), 4);
            });
        terms.says(", the key, the value or that it was removed, and the minute.", () -> {
            ChangeFeed feed = new ChangeFeed();
            feed.pass(3);
            feed.set(11, 0);
            feed.pass(2);
            feed.remove(11);
            int[][] due = {{0, 11, 0, 3}, {1, 11, ChangeFeed.NONE, 5}};
            for (int i = 0; i < due.length; i++) {
                for (int what = 0; what < 4; what++) {
                    DUE.is("entry(" + i + ", " + what + ")", feed.entry(i, what), due[i][what]);
                }
            }
        });
        terms.says("At most 60 entries are in the feed at a time.", () -> {
            ChangeFeed feed = Feeds.full();
            DUE.is("sixty", feed.count(0), 60);
            DUE.refuses("one more", feed, () -> feed.set(0, 1), ChangeFeed.TOO_MANY);
            DUE.refuses("a removal more", feed, () -> feed.remove(0), ChangeFeed.TOO_MANY);
            feed.thin();
            for (int i = 0; i < 48; i++) {
                DUE.is("more than sixty in all", feed.set(0, i), 60 + i);
            }
            DUE.refuses("full again", feed, () -> feed.set(0, 1), ChangeFeed.TOO_MANY);
        });
        terms.says("The next number is the one that the next entry will have.", () -> {
            ChangeFeed feed = new ChangeFeed();
            for (int i = 0; i < 3; i++) {
                int next = feed.count(1);
                feed.set(i, i);
                DUE.is("what it has", feed.entry(i, 0), next);
            }
        });
    }

    private static void segments(Section terms) {
        terms.says("A segment is the numbers from SIZE * k to SIZE * k + SIZE - 1;", () -> {
            ChangeFeed feed = new ChangeFeed();
            for (int i = 0; i < 45; i++) {
                feed.set(i % 12, i);
            }
            for (int size = 1; size <= 20; size++) {
                feed.turn(ChangeFeed.SIZE, size);
                int start = 45 - 45 % size;
                for (int i = 0; i < 45; i++) {
                    DUE.is("of the size " + size + ", closed " + i, feed.entry(i, 5), i < start ? 1 : 0);
                }
            }
        });
        terms.says("all segments but the one of the next number are closed.", () -> {
            ChangeFeed feed = new ChangeFeed();
            feed.turn(ChangeFeed.SIZE, 3);
            for (int i = 0; i < 3; i++) {
                feed.set(i, i);
                DUE.is("the first entry, of " + (i + 1), feed.entry(0, 5), i < 2 ? 0 : 1);
            }
            feed.set(3, 3);
            DUE.is("the third entry", feed.entry(2, 5), 1);
            DUE.is("the fourth entry", feed.entry(3, 5), 0);
        });
    }

    private static void readers(Section terms) {
        terms.says("There are up to 6 readers, numbered in the order in which they came.", () -> {
            ChangeFeed feed = new ChangeFeed();
            for (int i = 0; i < 6; i++) {
                DUE.is("reader " + i, feed.reader(), i);
                feed.set(0, i);
                feed.read(i, 99);
            }
            DUE.refuses("a seventh", feed, feed::reader, ChangeFeed.TOO_MANY);
            for (int i = 0; i < 6; i++) {
                DUE.is("its place", feed.ofReader(i, 0), i + 1);
            }
        });
        terms.says("A reader has a place (a number: the entries below it were read, or need not be)", () -> {
            ChangeFeed feed = Feeds.withReader();
            feed.set(0, 1);
            feed.set(1, 1);
            feed.read(0, 1);
            DUE.is("behind what was read", feed.ofReader(0, 0), 1);
            feed.snapshot();
            feed.load(0, 0);
            DUE.is("behind what need not be", feed.ofReader(0, 0), 2);
            DUE.is("nothing is ahead", feed.ofReader(0, 2), 0);
        });
        terms.says(", and a view: for each key a value or none.", () -> {
            ChangeFeed feed = Feeds.full();
            feed.reader();
            feed.read(0, 12);
            for (int key = 0; key < 12; key++) {
                DUE.is("key " + key, feed.view(0, key), key);
            }
            feed.beginAnew(0);
            DUE.is("none", feed.view(0, 11), ChangeFeed.NONE);
        });
        terms.says("It also has a confirmed place and a confirmed view.", () -> {
            ChangeFeed feed = Feeds.full();
            feed.reader();
            feed.read(0, 1);
            feed.confirm(0);
            feed.read(0, 59);
            DUE.is("the confirmed place", feed.ofReader(0, 1), 1);
            DUE.is("the confirmed view", feed.ofReader(0, 6), 4095);
            DUE.is("the view", feed.ofReader(0, 5), 0);
        });
        terms.says("One that comes has the place 0 and an empty view, also confirmed.", () -> {
            ChangeFeed feed = Feeds.withLateReader();
            feed.set(5, 0);
            feed.reader();
            DUE.is("place", feed.ofReader(1, 0), 0);
            DUE.is("confirmed place", feed.ofReader(1, 1), 0);
            DUE.is("view", feed.ofReader(1, 5), 2 + 32);
            DUE.is("confirmed view", feed.ofReader(1, 6), 2 + 32);
            for (int key = 0; key < 12; key++) {
                DUE.is("key " + key, feed.view(1, key), ChangeFeed.NONE);
            }
            DUE.is("back", feed.goBack(1), 0);
            ChangeFeed undone = new ChangeFeed();
            Feeds.carriedOut(undone, "n;p0=1;r0*1;c0");
            undone.undo();
            undone.set(0, 1);
            undone.reader();
            int[] due = {0, 0, 1, 0, 0, 1, 1};
            for (int what = 0; what < due.length; what++) {
                DUE.is("nothing of one that is undone, what " + what, undone.ofReader(0, what), due[what]);
            }
        });
    }

    private static void reading(Section terms) {
        terms.says("To read an entry: the first entry in the feed whose number is at least the place is read", () -> {
            ChangeFeed feed = Feeds.withReader();
            feed.turn(ChangeFeed.SIZE, 2);
            feed.set(0, 10);
            feed.set(1, 11);
            feed.read(0, 1);
            DUE.is("of its place, the first", feed.view(0, 0), 10);
            DUE.is("not the one behind it", feed.view(0, 1), ChangeFeed.NONE);
            feed.set(1, 12);
            feed.set(2, 13);
            feed.thin();
            feed.read(0, 1);
            DUE.is("above its place, as that one went", feed.view(0, 1), 12);
            DUE.is("not the one behind that", feed.view(0, 2), ChangeFeed.NONE);
        });
        terms.says("the key has its value in the view then, or none if it was removed", () -> {
            ChangeFeed feed = Feeds.withReader();
            feed.set(4, 0);
            feed.set(4, 999);
            feed.remove(4);
            int[] due = {0, 999, ChangeFeed.NONE};
            for (int i = 0; i < due.length; i++) {
                feed.read(0, 1);
                DUE.is("behind " + (i + 1), feed.view(0, 4), due[i]);
            }
        });
        terms.says("the place becomes the number of the entry and 1.", () -> {
            ChangeFeed feed = Feeds.withReader();
            feed.turn(ChangeFeed.SIZE, 1);
            for (int i = 0; i < 5; i++) {
                feed.set(0, i);
            }
            feed.read(0, 1);
            DUE.is("of the first", feed.ofReader(0, 0), 1);
            feed.thin();
            feed.read(0, 1);
            DUE.is("of the only one that is left", feed.ofReader(0, 0), 5);
        });
        terms.says("If there is no such entry, the reader has caught up.", () -> {
            ChangeFeed feed = Feeds.withReader();
            DUE.is("in an empty feed", feed.read(0, 1), 0);
            feed.set(0, 1);
            DUE.is("one", feed.read(0, 2), 1);
            DUE.is("none", feed.read(0, 1), 0);
            DUE.is("its place stays", feed.ofReader(0, 0), 1);
            feed.set(0, 2);
            DUE.is("one that came", feed.read(0, 1), 1);
        });
        terms.says("To confirm: the place and the view become the confirmed ones.", () -> {
            ChangeFeed feed = Feeds.withReader();
            feed.set(0, 1);
            feed.set(1, 1);
            feed.read(0, 1);
            feed.confirm(0);
            feed.read(0, 1);
            DUE.is("the place", feed.ofReader(0, 1), 1);
            DUE.is("the view", feed.ofReader(0, 6), 2);
            feed.confirm(0);
            DUE.is("the place then", feed.ofReader(0, 1), 2);
            DUE.is("the view then", feed.ofReader(0, 6), 0);
        });
        terms.says("To go back: the confirmed ones become the place and the view.", () -> {
            ChangeFeed feed = Feeds.withReader();
            feed.set(0, 1);
            feed.set(0, 2);
            feed.set(1, 1);
            feed.read(0, 1);
            feed.confirm(0);
            feed.read(0, 2);
            feed.goBack(0);
            DUE.is("the place", feed.ofReader(0, 0), 1);
            DUE.is("the view of key 0", feed.view(0, 0), 1);
            DUE.is("the view of key 1", feed.view(0, 1), ChangeFeed.NONE);
        });
    }

    private static void thinning(Section terms) {
        terms.onlyNames("Thinning, late readers");
        terms.says("To thin: of the entries in closed segments, those go for whose key there is a later entry in the "
            + "feed (in any segment).", () -> {
                ChangeFeed feed = new ChangeFeed();
                feed.turn(ChangeFeed.SIZE, 3);
                feed.set(0, 1);
                feed.set(0, 2);
                DUE.is("the open segment stays", feed.thin(), 0);
                feed.set(1, 3);
                DUE.is("a later one in a closed segment", feed.thin(), 1);
                DUE.is("the first one is left", feed.entry(0, 0), 1);
                feed.set(0, 4);
                DUE.is("a later one in the open segment", feed.thin(), 1);
                DUE.is("the third one is left", feed.entry(0, 0), 2);
                feed.set(0, 5);
                DUE.is("both in the open segment", feed.thin(), 0);
                feed.set(2, 6);
                DUE.is("it is closed then", feed.thin(), 1);
                DUE.is("a removal with a later entry", removalSetAgain().thin(), 2);
            });
        terms.says("Then, of those in closed segments that are left, those that tell of a removal go if more than GRACE "
            + "minutes have passed since", TermsTest::removalsGo);
        terms.says("; the floor (0 at first) becomes the greatest number of these and 1", () -> {
            ChangeFeed feed = removedTwice();
            DUE.is("at first", feed.count(4), 0);
            feed.pass(15);
            feed.thin();
            DUE.is("of the older one", feed.count(4), 3);
            feed.pass(6);
            feed.thin();
            DUE.is("of the younger one", feed.count(4), 4);
            ChangeFeed both = removedTwice();
            both.pass(21);
            both.thin();
            DUE.is("of both at once", both.count(4), 4);
            ChangeFeed again = removalSetAgain();
            again.thin();
            DUE.is("not of an old removal that goes for a later entry", again.count(4), 0);
        });
        terms.says(", if that is greater than it.", () -> {
            ChangeFeed feed = removedTwice();
            feed.pass(21);
            feed.thin();
            feed.thin();
            DUE.is("nothing goes", feed.count(4), 4);
            feed.set(5, 5);
            feed.set(5, 6);
            feed.thin();
            DUE.is("a later entry lifts nothing", feed.count(4), 4);
            feed.remove(5);
            feed.thin();
            DUE.is("nor does a removal that stays", feed.count(4), 4);
            feed.pass(21);
            feed.thin();
            DUE.is("one that goes does", feed.count(4), 7);
        });
    }

    /** An old removal in a closed segment, whose key is set again. */
    private static ChangeFeed removalSetAgain() {
        ChangeFeed feed = Feeds.quickToThin();
        feed.set(0, 1);
        feed.remove(0);
        feed.set(0, 2);
        feed.pass(5);
        return feed;
    }

    /** With the size 1 and the grace 20, the removals 2 and 3 are told at the minutes 0 and 6. */
    private static ChangeFeed removedTwice() {
        ChangeFeed feed = new ChangeFeed();
        feed.turn(ChangeFeed.SIZE, 1);
        feed.turn(ChangeFeed.GRACE, 20);
        feed.set(0, 1);
        feed.set(1, 1);
        feed.remove(0);
        feed.pass(6);
        feed.remove(1);
        return feed;
    }

    private static void removalsGo() {
        ChangeFeed feed = new ChangeFeed();
        feed.turn(ChangeFeed.SIZE, 2);
        feed.turn(ChangeFeed.GRACE, 10);
        feed.set(0, 1);
        feed.set(1, 1);
        feed.pass(5);
        feed.remove(0);
        feed.pass(10);
        feed.thin();
        DUE.is("just the grace, in the open segment", feed.count(0), 2);
        feed.pass(1);
        DUE.is("more, in the open segment", feed.thin(), 0);
        feed.set(2, 1);
        feed.turn(ChangeFeed.GRACE, 11);
        DUE.is("just the grace, in a closed segment", feed.thin(), 0);
        feed.turn(ChangeFeed.GRACE, 10);
        DUE.is("more, in a closed segment", feed.thin(), 1);
        DUE.is("what tells of a set key stays", feed.entry(0, 1), 1);
        DUE.is("however old", feed.entry(0, 3), 0);
        ChangeFeed quick = Feeds.quickToThin();
        quick.set(0, 1);
        quick.remove(0);
        DUE.is("the grace 0 at the same minute", quick.thin(), 1);
        quick.pass(1);
        DUE.is("the grace 0 a minute later", quick.thin(), 1);
        DUE.is("an empty feed", quick.count(0), 0);
        ChangeFeed longest = Feeds.quickToThin();
        longest.turn(ChangeFeed.GRACE, 999);
        longest.set(0, 1);
        longest.remove(0);
        longest.pass(999);
        DUE.is("the grace 999", longest.thin(), 1);
        longest.pass(1);
        DUE.is("a minute more", longest.thin(), 1);
    }

    private static void lateReaders(Section terms) {
        terms.says("A reader is late if its place is above 0 and below the floor: it could have missed a removal.",
            () -> {
                for (int place = 0; place <= 4; place++) {
                    ChangeFeed feed = Feeds.quickToThin();
                    feed.reader();
                    feed.set(0, 1);
                    feed.set(1, 1);
                    feed.remove(0);
                    feed.set(2, 2);
                    if (place > 0) {
                        feed.read(0, place);
                    }
                    DUE.is("its place", feed.ofReader(0, 0), place);
                    feed.pass(1);
                    DUE.is("it would be", feed.lateIn(0), place == 1 || place == 2 ? 1 : 0);
                    feed.thin();
                    DUE.is("the floor", feed.count(4), 3);
                    DUE.is("at the place " + place, feed.ofReader(0, 3), place == 1 || place == 2 ? 1 : 0);
                }
            });
        terms.says("A late reader cannot read.", () -> {
            ChangeFeed feed = Feeds.withLateReader();
            DUE.refuses("though an entry is ahead", feed, () -> feed.read(0, 1), ChangeFeed.NOT_POSSIBLE);
            DUE.is("it can begin anew", feed.beginAnew(0), 1);
            DUE.is("and read", feed.read(0, 1), 1);
        });
    }

    private static void snapshots(Section terms) {
        terms.says("A snapshot is the table with the next number, as they are when it is made.", () -> {
            ChangeFeed feed = Feeds.withReader();
            feed.set(0, 1);
            feed.snapshot();
            feed.set(0, 2);
            feed.set(1, 3);
            DUE.is("its number", feed.ofSnapshot(0, 0), 1);
            DUE.is("its keys", feed.ofSnapshot(0, 1), 1);
            feed.load(0, 0);
            DUE.is("the value that was", feed.view(0, 0), 1);
            DUE.is("what had none", feed.view(0, 1), ChangeFeed.NONE);
        });
        terms.says("The latest 4 are kept, the latest one first.", () -> {
            ChangeFeed feed = Feeds.withReader();
            for (int i = 0; i < 6; i++) {
                feed.set(0, 10 * i);
                feed.snapshot();
                DUE.is("kept", feed.count(8), Math.min(i + 1, 4));
            }
            for (int i = 0; i < 4; i++) {
                DUE.is("number of " + i, feed.ofSnapshot(i, 0), 6 - i);
                feed.load(0, i);
                DUE.is("table of " + i, feed.view(0, 0), 50 - 10 * i);
            }
            DUE.is("no fifth", feed.ofSnapshot(4, 0), ChangeFeed.NO_SUCH);
        });
        terms.says("A reader who loads one has this table as its view, and this number as its place; both are "
            + "confirmed.", () -> {
                ChangeFeed feed = Feeds.withReader();
                feed.set(0, 1);
                feed.set(1, 2);
                feed.snapshot();
                feed.set(2, 3);
                feed.read(0, 99);
                feed.confirm(0);
                feed.load(0, 0);
                int[] due = {1, 2, ChangeFeed.NONE};
                for (int key = 0; key < due.length; key++) {
                    DUE.is("view of " + key, feed.view(0, key), due[key]);
                }
                DUE.is("place", feed.ofReader(0, 0), 2);
                DUE.is("confirmed place", feed.ofReader(0, 1), 2);
                DUE.is("confirmed view", feed.ofReader(0, 6), 4);
            });
    }

    private static void hasNoFault(String... texts) {
        for (String text : texts) {
            DUE.is(text, Feeds.faultOf(text), ChangeFeed.NONE);
        }
    }

    private static void hasFault(String text, int at) {
        DUE.is(text, Feeds.faultOf(text), at);
    }

    private static void pad(Section terms) {
        terms.says("The pad is a text of at most 80 characters, a row of orders:", () -> {
            ChangeFeed feed = new ChangeFeed();
            Feeds.write(feed, "h;".repeat(39) + "h");
            DUE.is("the 80th", feed.put(';'), 80);
            DUE.refuses("the 81st", feed, () -> feed.put('h'), ChangeFeed.TOO_MANY);
        });
        terms.says("text = order { \";\" order }", () -> {
            hasNoFault("h", "h;n", "h;n;s;h", "p1=2;x3;t4;h;n;r0*5;c0;b0;s;l0@1");
            hasFault(";", 0);
            hasFault(";h", 0);
            hasFault("h;;h", 2);
            hasFault("hh", 1);
            hasFault("h,h", 1);
            hasFault("h;q", 2);
            hasFault("h;", 2);
        });
        terms.says("order = \"p\" number \"=\" number | \"x\" number | \"t\" number | \"h\" | \"n\" | \"r\" reader \"*\" "
            + "number | \"c\" reader | \"b\" reader | \"s\" | \"l\" reader \"@\" digit", TermsTest::eachCharacterAtEachPlace);
    }

    /** What can stand behind each beginning, told as the document tells it. */
    private static void eachCharacterAtEachPlace() {
        hasNoFault("p0=0", "p999=999", "p10=100", "x0", "x999", "t0", "t999", "h", "n", "r0*0", "r5*999", "c0", "c5",
            "b0", "b5", "s", "l0@0", "l5@9");
        String digits = "0123456789";
        String[] beginnings = {"", "h", "h;", "p", "p0", "p1", "p12", "p123", "p1=", "p1=0", "p1=9", "p1=98", "p1=987",
            "x", "x0", "x1", "x10", "x100", "t", "t0", "t5", "t50", "t500", "n", "s", "r", "r5", "r5*", "r5*0", "r5*5",
            "r5*55", "r5*555", "c", "c0", "b", "b0", "l", "l0", "l0@", "l0@0", "l0@9"};
        String[] next = {"pxthnrcbsl", ";", "pxthnrcbsl", digits, "=", "=" + digits, "=" + digits, "=", digits, ";",
            ";" + digits, ";" + digits, ";", digits, ";", ";" + digits, ";" + digits, ";", digits, ";", ";" + digits,
            ";" + digits, ";", ";", ";", "012345", "*", digits, ";", ";" + digits, ";" + digits, ";", "012345", ";",
            "012345", ";", "012345", "@", digits, ";", ";"};
        DUE.is("rows of the test", beginnings.length, next.length);
        for (int i = 0; i < beginnings.length; i++) {
            for (char sign = 33; sign <= 126; sign++) {
                boolean faultIsThere = Feeds.faultOf(beginnings[i] + sign) == beginnings[i].length();
                DUE.holds(beginnings[i] + " and " + sign, faultIsThere == (next[i].indexOf(sign) < 0));
            }
        }
    }

    /** Carries out one order alone. */
    private static void order(ChangeFeed feed, String text) {
        DUE.is(text, Feeds.carriedOut(feed, text), 1);
    }

    private static void orders(Section terms) {
        terms.says("\"p\": set() a key to a value;", () -> {
            ChangeFeed feed = new ChangeFeed();
            order(feed, "p11=999");
            DUE.is("the value", feed.table(11), 999);
            order(feed, "p0=0");
            DUE.is("the value 0", feed.table(0), 0);
            DUE.is("no such key", Feeds.carriedOut(feed, "p12=0"), 0);
        });
        terms.says("\"x\": remove() a key;", () -> {
            ChangeFeed feed = new ChangeFeed();
            feed.set(11, 1);
            order(feed, "x11");
            DUE.is("no value", feed.table(11), ChangeFeed.NONE);
            DUE.is("an entry", feed.count(0), 2);
            DUE.is("it has no value any more", Feeds.carriedOut(feed, "x11"), 0);
        });
        terms.says("\"t\": pass() minutes;", () -> {
            ChangeFeed feed = new ChangeFeed();
            order(feed, "t999");
            DUE.is("the minute", feed.count(3), 999);
            DUE.is("no minutes", Feeds.carriedOut(feed, "t0"), 0);
        });
        terms.says("\"h\": thin();", () -> {
            ChangeFeed feed = Feeds.quickToThin();
            feed.set(0, 1);
            feed.set(0, 2);
            order(feed, "h");
            DUE.is("one is left", feed.count(0), 1);
        });
        terms.says("\"n\": reader(), a new one;", () -> {
            ChangeFeed feed = new ChangeFeed();
            order(feed, "n");
            DUE.is("readers", feed.count(6), 1);
        });
        terms.says("\"r\": read() so many entries;", () -> {
            ChangeFeed feed = Feeds.full();
            for (int i = 0; i < 6; i++) {
                feed.reader();
            }
            order(feed, "r5*12");
            DUE.is("the place", feed.ofReader(5, 0), 12);
            DUE.is("of another one", feed.ofReader(0, 0), 0);
            order(feed, "r5*99");
            DUE.is("the most", feed.ofReader(5, 0), 60);
            DUE.is("more than that", Feeds.carriedOut(feed, "r5*100"), 0);
            DUE.is("none", Feeds.carriedOut(feed, "r5*0"), 0);
        });
        terms.says("\"c\": confirm();", () -> {
            ChangeFeed feed = Feeds.full();
            feed.reader();
            feed.read(0, 7);
            order(feed, "c0");
            DUE.is("the confirmed place", feed.ofReader(0, 1), 7);
        });
        terms.says("\"b\": goBack();", () -> {
            ChangeFeed feed = Feeds.full();
            feed.reader();
            feed.read(0, 7);
            order(feed, "b0");
            DUE.is("the place", feed.ofReader(0, 0), 0);
            DUE.is("the view", feed.view(0, 0), ChangeFeed.NONE);
        });
        terms.says("\"s\": snapshot();", () -> {
            ChangeFeed feed = Feeds.full();
            order(feed, "s");
            DUE.is("its number", feed.ofSnapshot(0, 0), 60);
        });
        terms.says("\"l\": load() a snapshot.", () -> {
            ChangeFeed feed = Feeds.withReader();
            for (int i = 0; i < 4; i++) {
                feed.set(0, i);
                feed.snapshot();
            }
            order(feed, "l0@3");
            DUE.is("the place of the oldest", feed.ofReader(0, 0), 1);
            order(feed, "l0@0");
            DUE.is("the place of the latest", feed.ofReader(0, 0), 4);
            DUE.is("no such snapshot", Feeds.carriedOut(feed, "l0@4"), 0);
            DUE.is("nor ever one", Feeds.carriedOut(feed, "l0@9"), 0);
        });
    }

    private static void numbersOfTexts(Section terms) {
        terms.says("A reader is a digit from 0 to 5", () -> {
            for (String letter : new String[] {"r", "c", "b", "l"}) {
                for (int digit = 0; digit <= 5; digit++) {
                    hasFault(letter + digit + "q", 2);
                }
                for (int digit = 6; digit <= 9; digit++) {
                    hasFault(letter + digit, 1);
                }
                hasFault(letter + "-", 1);
                hasFault(letter + "00", 2);
            }
        });
        terms.says(", a digit is 0 to 9", () -> {
            for (int digit = 0; digit <= 9; digit++) {
                hasNoFault("l0@" + digit);
            }
            hasFault("l0@/", 3);
            hasFault("l0@:", 3);
            hasFault("l0@10", 4);
        });
        terms.says(", a number is 0 to 999", () -> {
            for (int number : new int[] {0, 1, 9, 10, 99, 100, 998, 999}) {
                hasNoFault("x" + number, "t" + number, "p" + number + "=" + number, "r0*" + number);
            }
            for (int number : new int[] {1000, 1001, 9999}) {
                hasFault("x" + number, 4);
                hasFault("t" + number, 4);
                hasFault("p" + number + "=1", 4);
                hasFault("p1=" + number, 6);
                hasFault("r0*" + number, 6);
            }
        });
        terms.says(", without leading zeros.", () -> {
            hasFault("x00", 2);
            hasFault("x01", 2);
            hasFault("t09", 2);
            hasFault("p01=1", 2);
            hasFault("p1=00", 4);
            hasFault("r0*05", 4);
            hasNoFault("x0", "p0=0", "x100");
        });
    }

    private static void faults(Section terms) {
        terms.says("The fault is the index of the first character that cannot stand at its place when the text is read "
            + "from left to right", () -> {
                String[] texts = {"q", "H", "1", "h1", "p=", "p1;", "p1==", "p1=;", "x;", "xh", "x1=", "t-", "n0",
                    "s0", "r*", "r0;", "r0*;", "c;", "c5*", "b;", "b05", "l0*", "l0@;", "l0@x", "h;p1=2;q", "p1=2,",
                    "qqqq", "h;x1000;q"};
                int[] at = {0, 0, 0, 1, 1, 2, 3, 3, 1, 1, 2, 1, 1,
                    1, 1, 2, 3, 1, 2, 1, 2, 2, 3, 3, 7, 4,
                    0, 6};
                DUE.is("rows of the test", texts.length, at.length);
                for (int i = 0; i < texts.length; i++) {
                    hasFault(texts[i], at[i]);
                }
            });
        terms.says("(also of a digit by which a number would be above 999)", () -> {
            hasFault("x1000", 4);
            hasFault("x9999", 4);
            hasFault("p1=1000;q", 6);
            hasFault("t99999", 4);
        });
        terms.says("; if there is none and the text ends too early", () -> {
            for (String text : new String[] {"p", "p1", "p999", "p1=", "x", "t", "r", "r0", "r0*", "c", "b", "l", "l0",
                "l0@", "h;", "p1=2;", "p1=2;x"}) {
                hasFault(text, text.length());
            }
        });
        terms.says("(also if it is empty), it is the length of the text.", () -> {
            ChangeFeed feed = new ChangeFeed();
            DUE.is("empty at first", feed.fault(), 0);
            feed.put('h');
            feed.wipe();
            DUE.is("emptied", feed.fault(), 0);
            hasFault("h;".repeat(40), 80);
            hasFault("h;".repeat(39) + "p1", 80);
        });
    }

    private static void constants(Section terms) {
        terms.says("The constants: `NO_SUCH = -1, BAD_VALUE = -2, BAD_TEXT = -3, TOO_MANY = -4, NOT_POSSIBLE = -5, "
            + "NONE = -6`: Error codes, and NONE: there is none.", () -> {
                DUE.is("NO_SUCH", ChangeFeed.NO_SUCH, -1);
                DUE.is("BAD_VALUE", ChangeFeed.BAD_VALUE, -2);
                DUE.is("BAD_TEXT", ChangeFeed.BAD_TEXT, -3);
                DUE.is("TOO_MANY", ChangeFeed.TOO_MANY, -4);
                DUE.is("NOT_POSSIBLE", ChangeFeed.NOT_POSSIBLE, -5);
                DUE.is("NONE", ChangeFeed.NONE, -6);
            });
        terms.says("`SIZE = 0, GRACE = 1`: Settings.", () -> {
            DUE.is("SIZE", ChangeFeed.SIZE, 0);
            DUE.is("GRACE", ChangeFeed.GRACE, 1);
        });
    }

    private static void callsThatTell(Section terms) {
        terms.onlyNames("Ahead of the calls `turn`, `set`, `remove`, `pass`, `thin`, `snapshot` the interface says: "
            + "---- the table.");
        terms.onlyNames("Ahead of the calls `reader`, `read`, `confirm`, `goBack`, `beginAnew`, `load` the interface "
            + "says: ---- readers.");
        terms.onlyNames("Ahead of the calls `table`, `view`, `entry`, `ofReader`, `ofSnapshot`, `count` the interface "
            + "says: ---- what there is.");
        terms.says("Ahead of the calls `leftIn`, `lateIn`, `shortest`, `gentlest` the interface says: ---- what if; "
            + "nothing changes.", () -> {
                ChangeFeed feed = Feeds.started();
                String before = Feeds.everything(feed);
                feed.leftIn(999);
                feed.lateIn(999);
                feed.shortest(0, 0);
                feed.shortest(0, 1);
                feed.gentlest();
                DUE.holds("nothing changes", Feeds.everything(feed).equals(before));
                feed.undo();
                ChangeFeed twin = Feeds.started();
                twin.undo();
                DUE.holds("nor before", Feeds.everything(feed).equals(Feeds.everything(twin)));
            });
        terms.onlyNames("Ahead of the calls `put`, `wipe`, `fault`, `carryOut` the interface says: ---- texts.");
        terms.onlyNames("Ahead of the calls `undo`, `save`, `restore` the interface says: ---- undo, saving.");
    }
}
