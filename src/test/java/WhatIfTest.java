/** Promises 20 to 23: what a thinning would leave, who would be late, the shortest way. */
public final class WhatIfTest {
    private static final Due DUE = new Due("WhatIfTest");

    public static void main(String[] args) {
        leftIn();
        lateIn();
        beyondTheLastMinute();
        wrongMinutes();
        shortestByReadingOn();
        shortestBySnapshots();
        shortestOfALateReader();
        shortestByTheOldestSnapshot();
        shortestWrongInputs();
        gentlest();
        gentlestOfRemovals();
        DUE.end();
    }

    private static ChangeFeed withRemovals() {
        ChangeFeed feed = new ChangeFeed();
        feed.turn(ChangeFeed.SIZE, 2);
        feed.turn(ChangeFeed.GRACE, 10);
        feed.reader();
        feed.reader();
        feed.reader();
        feed.set(0, 1);
        feed.set(1, 1);
        feed.read(1, 1);
        feed.remove(0);
        feed.pass(4);
        feed.remove(1);
        feed.set(2, 2);
        feed.read(2, 3);
        return feed;
    }

    private static void leftIn() {
        ChangeFeed feed = withRemovals();
        DUE.is("20: now", feed.leftIn(0), 3);
        DUE.is("20: just GRACE of the first", feed.leftIn(6), 3);
        DUE.is("20: the first removal goes", feed.leftIn(7), 2);
        DUE.is("20: just GRACE of the second", feed.leftIn(10), 2);
        DUE.is("20: the second one goes", feed.leftIn(11), 1);
        DUE.is("20: much later", feed.leftIn(999), 1);
        DUE.is("20: nothing went", feed.count(0) * 10 + feed.count(5), 50);
        DUE.is("20: no minute passed", feed.count(3), 4);
        feed.pass(11);
        feed.thin();
        DUE.is("20: as it comes", feed.count(0), 1);
        DUE.is("20: of an empty feed", new ChangeFeed().leftIn(5), 0);
    }

    private static void lateIn() {
        ChangeFeed feed = withRemovals();
        DUE.is("21: now", feed.lateIn(0), 0);
        DUE.is("21: not yet", feed.lateIn(6), 0);
        DUE.is("21: the first removal", feed.lateIn(7), 2);
        DUE.is("21: at the floor is not late", feed.lateIn(10), 2);
        DUE.is("21: the second removal", feed.lateIn(11), 6);
        DUE.is("21: nothing changes", feed.count(4) + feed.count(7), 0);
        feed.pass(7);
        feed.thin();
        DUE.is("21: late already", feed.lateIn(0), 2);
        DUE.is("21: as it comes", feed.count(7), 2);
    }

    private static void beyondTheLastMinute() {
        ChangeFeed feed = new ChangeFeed();
        for (int i = 0; i < 100; i++) {
            feed.pass(999);
        }
        feed.pass(99);
        feed.turn(ChangeFeed.SIZE, 1);
        feed.turn(ChangeFeed.GRACE, 998);
        feed.reader();
        feed.set(0, 1);
        feed.read(0, 1);
        feed.remove(0);
        DUE.is("20: minutes beyond the last one", feed.leftIn(998), 1);
        DUE.is("20: and more than GRACE", feed.leftIn(999), 0);
        DUE.is("21: minutes beyond the last one", feed.lateIn(998), 0);
        DUE.is("21: and more than GRACE", feed.lateIn(999), 1);
    }

    private static void wrongMinutes() {
        ChangeFeed feed = withRemovals();
        for (int wrong : Due.wrongNumbers(1000)) {
            DUE.is("20: minutes " + wrong, feed.leftIn(wrong), ChangeFeed.BAD_VALUE);
            DUE.is("21: minutes " + wrong, feed.lateIn(wrong), ChangeFeed.BAD_VALUE);
        }
    }

    private static void shortestByReadingOn() {
        ChangeFeed feed = new ChangeFeed();
        feed.reader();
        DUE.is("22: nothing to read", feed.shortest(0, 0), 0);
        DUE.is("22: no entries", feed.shortest(0, 1), 0);
        feed.set(0, 1);
        feed.set(1, 1);
        DUE.is("22: as much as beginning anew", feed.shortest(0, 0), 0);
        DUE.is("22: two entries", feed.shortest(0, 1), 2);
        feed.read(0, 1);
        DUE.is("22: reading on", feed.shortest(0, 0), 0);
        DUE.is("22: one entry", feed.shortest(0, 1), 1);
        DUE.is("22: nothing changes", feed.ofReader(0, 0), 1);
    }

    private static void shortestBySnapshots() {
        ChangeFeed feed = new ChangeFeed();
        feed.reader();
        feed.set(0, 1);
        feed.snapshot();
        feed.set(1, 1);
        feed.snapshot();
        feed.set(2, 1);
        DUE.is("22: the latest snapshot", feed.shortest(0, 0), 1);
        DUE.is("22: its entries", feed.shortest(0, 1), 1);
        feed.read(0, 2);
        DUE.is("22: the lower one of two", feed.shortest(0, 0), 0);
        feed.beginAnew(0);
        feed.snapshot();
        feed.snapshot();
        DUE.is("22: the latest of equal ones", feed.shortest(0, 0), 1);
        DUE.is("22: none to read", feed.shortest(0, 1), 0);
    }

    private static void shortestOfALateReader() {
        ChangeFeed feed = new ChangeFeed();
        feed.turn(ChangeFeed.SIZE, 1);
        feed.turn(ChangeFeed.GRACE, 0);
        feed.reader();
        feed.snapshot();
        feed.set(0, 1);
        feed.set(1, 1);
        feed.read(0, 1);
        feed.snapshot();
        feed.remove(0);
        feed.pass(1);
        feed.thin();
        DUE.is("22: late", feed.ofReader(0, 3), 1);
        DUE.is("22: the snapshot 0 would be late, 1 has number 0", feed.shortest(0, 0), 2);
        DUE.is("22: its entries", feed.shortest(0, 1), 1);
        for (int i = 0; i < 4; i++) {
            feed.set(1, i);
            feed.snapshot();
        }
        feed.set(2, 2);
        feed.remove(2);
        feed.pass(1);
        feed.thin();
        DUE.is("22: all snapshots would be late", feed.shortest(0, 0), 5);
        DUE.is("22: the entries of beginning anew", feed.shortest(0, 1), 1);
    }

    private static void shortestByTheOldestSnapshot() {
        ChangeFeed feed = new ChangeFeed();
        feed.turn(ChangeFeed.SIZE, 1);
        feed.turn(ChangeFeed.GRACE, 0);
        feed.reader();
        feed.snapshot();
        feed.set(0, 1);
        feed.set(1, 1);
        feed.read(0, 1);
        feed.snapshot();
        feed.snapshot();
        feed.snapshot();
        feed.remove(0);
        feed.pass(1);
        feed.thin();
        DUE.is("22: the snapshot 3 alone would not be late", feed.shortest(0, 0), 4);
        DUE.is("22: its entries", feed.shortest(0, 1), 1);
        DUE.is("22: as the load says", feed.load(0, 2), ChangeFeed.NOT_POSSIBLE);
        DUE.is("22: and that of 3", feed.load(0, 3), 0);
    }

    private static void shortestWrongInputs() {
        ChangeFeed feed = new ChangeFeed();
        feed.reader();
        for (int wrong : Due.wrongNumbers(2)) {
            DUE.is("22: what " + wrong, feed.shortest(0, wrong), ChangeFeed.BAD_VALUE);
            DUE.is("22: reader " + wrong, feed.shortest(wrong, 0), ChangeFeed.NO_SUCH);
            DUE.is("22: reader ahead of what " + wrong, feed.shortest(1, wrong), ChangeFeed.NO_SUCH);
        }
    }

    private static void gentlest() {
        ChangeFeed feed = new ChangeFeed();
        DUE.is("23: of nothing", feed.gentlest(), 1);
        for (int i = 0; i < 7; i++) {
            feed.set(0, i);
        }
        DUE.is("23: the first size with the next number in one segment", feed.gentlest(), 8);
        DUE.is("23: it is not set", feed.count(9), 5);
        for (int i = 7; i < 20; i++) {
            feed.set(0, i);
        }
        DUE.is("23: the largest open segment at 20", feed.gentlest(), 11);
        feed.set(1, 1);
        feed.set(1, 1);
        for (int i = 22; i < 39; i++) {
            feed.set(2, i);
        }
        DUE.is("23: 39 entries", feed.gentlest(), 20);
        feed.set(2, 3);
        DUE.is("23: 40 entries", feed.gentlest(), 14);
    }

    private static void gentlestOfRemovals() {
        ChangeFeed feed = new ChangeFeed();
        feed.set(0, 1);
        feed.remove(0);
        feed.set(1, 1);
        DUE.is("23: the set one goes up to size 3", feed.gentlest(), 4);
        feed.turn(ChangeFeed.SIZE, 1);
        DUE.is("23: thinned", feed.thin(), 1);
        feed.pass(30);
        DUE.is("23: just GRACE", feed.gentlest(), 1);
        feed.pass(1);
        DUE.is("23: the removal goes up to size 3", feed.gentlest(), 4);
        feed.turn(ChangeFeed.SIZE, 7);
        DUE.is("23: the set size does not matter", feed.gentlest(), 4);
        feed.turn(ChangeFeed.GRACE, 31);
        DUE.is("23: the set GRACE does", feed.gentlest(), 1);
        DUE.is("23: nothing went", feed.count(5), 1);
        ChangeFeed two = new ChangeFeed();
        two.turn(ChangeFeed.SIZE, 1);
        two.set(0, 1);
        two.set(1, 1);
        two.remove(0);
        two.thin();
        two.pass(31);
        DUE.is("23: size 2 keeps the removal open", two.gentlest(), 2);
    }
}
