/** Promises 20 to 23, sentence by sentence: what a thinning would leave, who would be late, the shortest way. */
public final class WhatIfTest {
    private static final Due DUE = new Due("WhatIfTest");

    public static void main(String[] args) {
        leftIn();
        lateIn();
        shortest();
        gentlest();
        DUE.end();
    }

    /**
     * At the minute 4, with the size 2 and the grace 10: the removals 2 (of the minute 0) and 3 (of the minute 4)
     * are in a closed segment, and the readers 0, 1 and 2 are at the places 0, 1 and 3.
     */
    private static ChangeFeed withRemovals() {
        ChangeFeed feed = new ChangeFeed();
        feed.turn(ChangeFeed.SIZE, 2);
        feed.turn(ChangeFeed.GRACE, 10);
        feed.reader();
        feed.reader();
        feed.reader();
        feed.set(0, 1);
        feed.set(1, 1);
        feed.read(1, 1);
        feed.remove(0);
        feed.pass(4);
        feed.remove(1);
        feed.set(2, 2);
        feed.read(2, 3);
        return feed;
    }

    /** At the minute 99999 a removal comes, and the reader 0 did not read it. */
    private static ChangeFeed atTheLastMinute() {
        ChangeFeed feed = new ChangeFeed();
        for (int i = 0; i < 100; i++) {
            feed.pass(999);
        }
        feed.pass(99);
        feed.turn(ChangeFeed.SIZE, 1);
        feed.turn(ChangeFeed.GRACE, 998);
        feed.reader();
        feed.set(0, 1);
        feed.read(0, 1);
        feed.remove(0);
        return feed;
    }

    private static void leftIn() {
        Section leftIn = new Section(DUE, "Promise 20: leftIn");
        leftIn.says("Tells how many entries would be left if minutes passed and the feed was thinned then.", () -> {
            ChangeFeed feed = withRemovals();
            int[] minutes = {0, 6, 7, 10, 11, 999};
            int[] left = {3, 3, 2, 2, 1, 1};
            for (int i = 0; i < minutes.length; i++) {
                int passing = minutes[i];
                DUE.onlyTells("in " + passing, feed, () -> feed.leftIn(passing), left[i]);
                ChangeFeed thinned = withRemovals();
                thinned.pass(passing);
                thinned.thin();
                DUE.is("as it comes in " + passing, thinned.count(0), left[i]);
            }
        });
        leftIn.says("`minutes`: 0 to 999", () -> {
            ChangeFeed feed = Feeds.quickToThin();
            feed.turn(ChangeFeed.GRACE, 998);
            feed.set(0, 1);
            feed.remove(0);
            DUE.is("the fewest", feed.leftIn(0), 1);
            DUE.is("just the grace", feed.leftIn(998), 1);
            DUE.is("the most", feed.leftIn(999), 0);
        });
        leftIn.says("(the bound of pass() does not matter, nor for lateIn())", () -> {
            ChangeFeed feed = atTheLastMinute();
            DUE.onlyTells("998 beyond the last minute", feed, () -> feed.leftIn(998), 1);
            DUE.onlyTells("999 beyond the last minute", feed, () -> feed.leftIn(999), 0);
            DUE.onlyTells("late 998 beyond it", feed, () -> feed.lateIn(998), 0);
            DUE.onlyTells("late 999 beyond it", feed, () -> feed.lateIn(999), 1);
        });
        leftIn.says("Returns how many;", () -> {
            DUE.is("of an empty feed", new ChangeFeed().leftIn(5), 0);
            DUE.is("of a full one", Feeds.full().leftIn(999), 12);
            ChangeFeed open = Feeds.full();
            open.turn(ChangeFeed.SIZE, 7);
            DUE.is("with four in the open segment", open.leftIn(0), 12);
            open.turn(ChangeFeed.SIZE, 16);
            DUE.is("with twelve in the open segment", open.leftIn(0), 12);
            open.turn(ChangeFeed.SIZE, 20);
            DUE.is("with none in the open segment", open.leftIn(0), 12);
            ChangeFeed same = new ChangeFeed();
            same.turn(ChangeFeed.SIZE, 20);
            for (int i = 0; i < 19; i++) {
                same.set(0, i);
            }
            DUE.is("all in the open segment", same.leftIn(0), 19);
        });
        leftIn.says("BAD_VALUE if minutes is out of range.", () -> {
            ChangeFeed feed = withRemovals();
            for (int wrong : Feeds.wrongNumbers(1000, 1001)) {
                DUE.onlyTells("minutes " + wrong, feed, () -> feed.leftIn(wrong), ChangeFeed.BAD_VALUE);
            }
        });
        leftIn.end();
    }

    private static void lateIn() {
        Section lateIn = new Section(DUE, "Promise 21: lateIn");
        lateIn.says("Tells which readers would be late if minutes passed and the feed was thinned then.", () -> {
            ChangeFeed feed = withRemovals();
            int[] minutes = {0, 6, 7, 10, 11, 999};
            int[] late = {0, 0, 2, 2, 6, 6};
            for (int i = 0; i < minutes.length; i++) {
                int passing = minutes[i];
                DUE.onlyTells("in " + passing, feed, () -> feed.lateIn(passing), late[i]);
                ChangeFeed thinned = withRemovals();
                thinned.pass(passing);
                thinned.thin();
                DUE.is("as it comes in " + passing, thinned.count(7), late[i]);
            }
        });
        lateIn.says("`minutes`: 0 to 999", () -> {
            ChangeFeed feed = Feeds.quickToThin();
            feed.turn(ChangeFeed.GRACE, 998);
            feed.reader();
            feed.set(0, 1);
            feed.read(0, 1);
            feed.remove(0);
            DUE.is("the fewest", feed.lateIn(0), 0);
            DUE.is("just the grace", feed.lateIn(998), 0);
            DUE.is("the most", feed.lateIn(999), 1);
        });
        lateIn.says("Returns the set;", () -> {
            ChangeFeed late = Feeds.withLateReader();
            DUE.is("late already", late.lateIn(0), 1);
            DUE.is("no readers", new ChangeFeed().lateIn(999), 0);
            ChangeFeed six = Feeds.quickToThin();
            for (int i = 0; i < 6; i++) {
                six.reader();
            }
            six.set(0, 1);
            six.read(0, 1);
            six.read(5, 1);
            six.remove(0);
            six.read(4, 2);
            DUE.is("the first and the sixth", six.lateIn(1), 33);
        });
        lateIn.says("BAD_VALUE if minutes is out of range.", () -> {
            ChangeFeed feed = withRemovals();
            for (int wrong : Feeds.wrongNumbers(1000, 1001)) {
                DUE.onlyTells("minutes " + wrong, feed, () -> feed.lateIn(wrong), ChangeFeed.BAD_VALUE);
            }
        });
        lateIn.end();
    }

    private static void wayIs(String what, ChangeFeed feed, int reader, int way, int entries) {
        DUE.onlyTells("the way, " + what, feed, () -> feed.shortest(reader, 0), way);
        DUE.onlyTells("the entries, " + what, feed, () -> feed.shortest(reader, 1), entries);
    }

    /** The reader 0 is late, and of the snapshots only the one of the empty feed, at this place, is not. */
    private static ChangeFeed withSnapshotOfNothingAt(int place) {
        ChangeFeed feed = Feeds.quickToThin();
        feed.reader();
        feed.snapshot();
        feed.set(0, 1);
        feed.set(1, 1);
        feed.read(0, 1);
        for (int i = 0; i < place; i++) {
            feed.snapshot();
        }
        feed.remove(0);
        feed.pass(1);
        feed.thin();
        return feed;
    }

    private static void shortest() {
        Section shortest = new Section(DUE, "Promise 22: shortest");
        shortest.says("Finds the way by which a reader would have caught up with the fewest entries to read", () -> {
            ChangeFeed feed = Feeds.withReader();
            for (int i = 0; i < 3; i++) {
                feed.set(i, i);
            }
            feed.read(0, 1);
            feed.set(3, 3);
            wayIs("reading on", feed, 0, 0, 3);
            feed.snapshot();
            feed.set(4, 4);
            wayIs("the snapshot", feed, 0, 1, 1);
            feed.read(0, 99);
            wayIs("reading on, as it has caught up", feed, 0, 0, 0);
            feed.reader();
            wayIs("the snapshot, for another one", feed, 1, 1, 1);
        });
        shortest.says("0 by reading on (if it is not late)", () -> {
            ChangeFeed late = Feeds.withLateReader();
            wayIs("late, with an entry that it did not read", late, 0, 5, 1);
            late.set(2, 2);
            late.remove(2);
            wayIs("late, with as many entries ahead", late, 0, 5, 3);
            late.reader();
            wayIs("at the place 0", late, 1, 0, 3);
        });
        shortest.says("1 to 4 by loading the snapshot 0 to 3 first (if it can)", () -> {
            for (int place = 0; place < 4; place++) {
                wayIs("by the snapshot " + place, withSnapshotOfNothingAt(place), 0, place + 1, 1);
            }
            ChangeFeed dropped = withSnapshotOfNothingAt(4);
            wayIs("that one is dropped, and the others would be late", dropped, 0, 5, 1);
            dropped.snapshot();
            wayIs("one at the next number", dropped, 0, 1, 0);
        });
        shortest.says("5 by beginning anew", () -> {
            ChangeFeed feed = Feeds.withLateReader();
            feed.set(0, 1);
            feed.set(2, 2);
            wayIs("all entries that are left", feed, 0, 5, 3);
            feed.beginAnew(0);
            DUE.is("as it comes", feed.read(0, 99), 3);
        });
        shortest.says("of several the lowest one.", () -> {
            ChangeFeed feed = Feeds.withReader();
            feed.snapshot();
            feed.set(0, 1);
            wayIs("0 of 0, 1 and 5", feed, 0, 0, 1);
            feed.snapshot();
            feed.snapshot();
            wayIs("1 of 1 and 2", feed, 0, 1, 0);
            feed.read(0, 1);
            wayIs("0 of 0, 1 and 2", feed, 0, 0, 0);
            ChangeFeed late = withSnapshotOfNothingAt(2);
            wayIs("3 of 3 and 5", late, 0, 3, 1);
        });
        shortest.says("`what`: 0 the way", () -> {
            DUE.is("the way of a late reader", Feeds.withLateReader().shortest(0, 0), 5);
            DUE.is("the way of a new one", Feeds.withReader().shortest(0, 0), 0);
        });
        shortest.says("1 the entries", () -> {
            ChangeFeed full = Feeds.full();
            full.reader();
            DUE.is("sixty", full.shortest(0, 1), 60);
            full.read(0, 59);
            DUE.is("one", full.shortest(0, 1), 1);
        });
        shortest.says("Returns the number;", () -> {
            ChangeFeed feed = Feeds.withReader();
            DUE.is("the way in an empty feed", feed.shortest(0, 0), 0);
            DUE.is("the entries of an empty feed", feed.shortest(0, 1), 0);
        });
        shortest.says("NO_SUCH if there is no such reader", () -> {
            ChangeFeed none = new ChangeFeed();
            DUE.onlyTells("before one comes", none, () -> none.shortest(0, 0), ChangeFeed.NO_SUCH);
            ChangeFeed feed = Feeds.withReader();
            for (int wrong : Feeds.wrongNumbers(1, 2, 5, 6)) {
                DUE.onlyTells("reader " + wrong, feed, () -> feed.shortest(wrong, 1), ChangeFeed.NO_SUCH);
                DUE.onlyTells("a bad value, too " + wrong, feed, () -> feed.shortest(wrong, 2), ChangeFeed.NO_SUCH);
            }
        });
        shortest.says("BAD_VALUE if what is out of range.", () -> {
            ChangeFeed feed = Feeds.withReader();
            for (int wrong : Feeds.wrongNumbers(2, 3)) {
                DUE.onlyTells("what " + wrong, feed, () -> feed.shortest(0, wrong), ChangeFeed.BAD_VALUE);
            }
        });
        shortest.end();
    }

    private static ChangeFeed withEntriesOfOneKey(int many) {
        ChangeFeed feed = new ChangeFeed();
        for (int i = 0; i < many; i++) {
            feed.set(0, i);
        }
        return feed;
    }

    private static void gentlest() {
        Section gentlest = new Section(DUE, "Promise 23: gentlest");
        gentlest.says("Returns the lowest SIZE", () -> {
            DUE.is("all sizes are equal for an empty feed", new ChangeFeed().gentlest(), 1);
            ChangeFeed different = new ChangeFeed();
            for (int key = 0; key < 12; key++) {
                different.set(key, 1);
            }
            DUE.is("and for different keys", different.gentlest(), 1);
            DUE.is("8 to 20 leave all of seven", withEntriesOfOneKey(7).gentlest(), 8);
            DUE.is("20 is a size, too", withEntriesOfOneKey(19).gentlest(), 20);
            DUE.is("of one entry", withEntriesOfOneKey(1).gentlest(), 1);
        });
        gentlest.says("with which a thinning", () -> {
            ChangeFeed feed = withEntriesOfOneKey(7);
            feed.turn(ChangeFeed.SIZE, 2);
            DUE.onlyTells("whichever is set", feed, feed::gentlest, 8);
            for (int size = 1; size <= 20; size++) {
                ChangeFeed thinned = withEntriesOfOneKey(7);
                thinned.turn(ChangeFeed.SIZE, size);
                thinned.thin();
                DUE.holds("as it comes with " + size, thinned.count(0) < 7 || size >= 8);
            }
        });
        gentlest.says("now", () -> {
            ChangeFeed feed = Feeds.quickToThin();
            feed.turn(ChangeFeed.GRACE, 30);
            feed.set(0, 1);
            feed.set(1, 1);
            feed.remove(0);
            feed.thin();
            feed.pass(30);
            DUE.onlyTells("just the grace", feed, feed::gentlest, 1);
            feed.pass(1);
            DUE.onlyTells("the size 2 keeps the removal open", feed, feed::gentlest, 2);
            feed.turn(ChangeFeed.GRACE, 31);
            DUE.onlyTells("with another grace", feed, feed::gentlest, 1);
        });
        gentlest.says("would leave the most entries in the feed.", () -> {
            DUE.is("of 20, the size 11 leaves nine", withEntriesOfOneKey(20).gentlest(), 11);
            DUE.is("of 39, the size 20 leaves 19", withEntriesOfOneKey(39).gentlest(), 20);
            DUE.is("of 40, the size 14 leaves twelve", withEntriesOfOneKey(40).gentlest(), 14);
            DUE.is("of 60, the size 16 leaves twelve", withEntriesOfOneKey(60).gentlest(), 16);
        });
        gentlest.says("Returns the setting.", () -> {
            ChangeFeed feed = withEntriesOfOneKey(3);
            DUE.is("4", feed.gentlest(), 4);
            DUE.is("it is not set by it", feed.count(9), 5);
        });
        gentlest.end();
    }
}
