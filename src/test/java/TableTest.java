/** Promises 1 to 7: a new object, and what changes the table. */
public final class TableTest {
    private static final Due DUE = new Due("TableTest");

    public static void main(String[] args) {
        newObject();
        turn();
        set();
        setInAFullFeed();
        remove();
        removeInAFullFeed();
        pass();
        thinBySegments();
        thinByGrace();
        floorNeverSinks();
        floorIsLiftedByRemovalsAlone();
        thinWithAnotherSize();
        snapshot();
        snapshotIsACopy();
        DUE.end();
    }

    private static void newObject() {
        ChangeFeed feed = new ChangeFeed();
        int[] due = {0, 0, 0, 0, 0, 0, 0, 0, 0, 5, 30, 0, 0};
        for (int what = 0; what < due.length; what++) {
            DUE.is("1: count(" + what + ")", feed.count(what), due[what]);
        }
        for (int key = 0; key < 12; key++) {
            DUE.is("1: table(" + key + ")", feed.table(key), ChangeFeed.NONE);
        }
        DUE.is("1: entry", feed.entry(0, 0), ChangeFeed.NO_SUCH);
        DUE.is("1: reader", feed.ofReader(0, 0), ChangeFeed.NO_SUCH);
        DUE.is("1: snapshot", feed.ofSnapshot(0, 0), ChangeFeed.NO_SUCH);
        DUE.is("1: undo", feed.undo(), ChangeFeed.NOT_POSSIBLE);
        DUE.is("1: slot 0", feed.restore(0), ChangeFeed.NOT_POSSIBLE);
        DUE.is("1: slot 1", feed.restore(1), ChangeFeed.NOT_POSSIBLE);
        DUE.is("1: fault", feed.fault(), 0);
        ChangeFeed other = new ChangeFeed();
        other.set(0, 1);
        other.turn(0, 9);
        DUE.is("1: objects are apart", feed.count(0) + feed.table(0) + feed.count(9), -1);
    }

    private static void turn() {
        ChangeFeed feed = new ChangeFeed();
        DUE.is("2: first size", feed.turn(ChangeFeed.SIZE, 1), 5);
        DUE.is("2: lowest size", feed.turn(ChangeFeed.SIZE, 20), 1);
        DUE.is("2: highest size", feed.turn(ChangeFeed.SIZE, 20), 20);
        DUE.is("2: first grace", feed.turn(ChangeFeed.GRACE, 0), 30);
        DUE.is("2: lowest grace", feed.turn(ChangeFeed.GRACE, 999), 0);
        DUE.is("2: highest grace", feed.turn(ChangeFeed.GRACE, 21), 999);
        DUE.is("2: undos", feed.count(12), 6);
        for (int wrong : Due.wrongNumbers(0, 21)) {
            DUE.is("2: size " + wrong, feed.turn(ChangeFeed.SIZE, wrong), ChangeFeed.BAD_VALUE);
        }
        for (int wrong : Due.wrongNumbers(1000)) {
            DUE.is("2: grace " + wrong, feed.turn(ChangeFeed.GRACE, wrong), ChangeFeed.BAD_VALUE);
        }
        for (int wrong : Due.wrongNumbers(2)) {
            DUE.is("2: setting " + wrong, feed.turn(wrong, 5), ChangeFeed.BAD_VALUE);
        }
        DUE.is("2: size", feed.count(9), 20);
        DUE.is("2: grace", feed.count(10), 21);
        ChangeFeed quiet = new ChangeFeed();
        quiet.turn(0, 0);
        DUE.is("2: an error records nothing", quiet.count(12), 0);
        quiet.turn(0, 5);
        DUE.is("2: the same value records", quiet.count(12), 1);
    }

    private static void set() {
        ChangeFeed feed = new ChangeFeed();
        DUE.is("3: number", feed.set(0, 0), 0);
        feed.pass(7);
        DUE.is("3: next number", feed.set(11, 999), 1);
        DUE.is("3: the same value", feed.set(11, 999), 2);
        DUE.is("3: lowest value", feed.table(0), 0);
        DUE.is("3: highest value", feed.table(11), 999);
        DUE.is("3: entries", feed.count(0), 3);
        DUE.is("3: key of the entry", feed.entry(1, 1), 11);
        DUE.is("3: value of the entry", feed.entry(1, 2), 999);
        DUE.is("3: minute of the entry", feed.entry(1, 3), 7);
        DUE.is("3: undos", feed.count(12), 4);
        for (int wrong : Due.wrongNumbers(12)) {
            DUE.is("3: key " + wrong, feed.set(wrong, 5), ChangeFeed.NO_SUCH);
            DUE.is("3: key ahead of value " + wrong, feed.set(wrong, -1), ChangeFeed.NO_SUCH);
        }
        for (int wrong : Due.wrongNumbers(1000)) {
            DUE.is("3: value " + wrong, feed.set(0, wrong), ChangeFeed.BAD_VALUE);
        }
        DUE.is("3: errors change nothing", feed.count(0) * 100 + feed.count(12), 304);
    }

    private static ChangeFeed full() {
        ChangeFeed feed = new ChangeFeed();
        for (int i = 0; i < 60; i++) {
            DUE.is("3: filling", feed.set(i % 12, i), i);
        }
        return feed;
    }

    private static void setInAFullFeed() {
        ChangeFeed feed = full();
        DUE.is("3: the 61st", feed.set(0, 1), ChangeFeed.TOO_MANY);
        DUE.is("3: value ahead of the full feed", feed.set(0, 1000), ChangeFeed.BAD_VALUE);
        DUE.is("3: key ahead of the full feed", feed.set(12, 1000), ChangeFeed.NO_SUCH);
        DUE.is("3: table stays", feed.table(0), 48);
        DUE.is("3: thinned", feed.thin(), 48);
        DUE.is("3: numbers go on", feed.set(0, 1), 60);
        DUE.is("3: last entry", feed.entry(12, 0), 60);
    }

    private static void remove() {
        ChangeFeed feed = new ChangeFeed();
        DUE.is("4: none yet", feed.remove(3), ChangeFeed.NOT_POSSIBLE);
        feed.set(3, 0);
        DUE.is("4: number", feed.remove(3), 1);
        DUE.is("4: table", feed.table(3), ChangeFeed.NONE);
        DUE.is("4: entry", feed.entry(1, 2), ChangeFeed.NONE);
        DUE.is("4: key of the entry", feed.entry(1, 1), 3);
        DUE.is("4: twice", feed.remove(3), ChangeFeed.NOT_POSSIBLE);
        DUE.is("4: undos", feed.count(12), 2);
        for (int wrong : Due.wrongNumbers(12)) {
            DUE.is("4: key " + wrong, feed.remove(wrong), ChangeFeed.NO_SUCH);
        }
    }

    private static void removeInAFullFeed() {
        ChangeFeed feed = full();
        DUE.is("4: full", feed.remove(0), ChangeFeed.TOO_MANY);
        DUE.is("4: key ahead of the full feed", feed.remove(12), ChangeFeed.NO_SUCH);
        ChangeFeed oneKey = new ChangeFeed();
        for (int i = 0; i < 60; i++) {
            oneKey.set(0, i);
        }
        DUE.is("4: full ahead of no value", oneKey.remove(1), ChangeFeed.TOO_MANY);
    }

    private static void pass() {
        ChangeFeed feed = new ChangeFeed();
        DUE.is("5: 1", feed.pass(1), 1);
        DUE.is("5: 999", feed.pass(999), 1000);
        DUE.is("5: undos", feed.count(12), 2);
        for (int wrong : Due.wrongNumbers(0, 1000)) {
            DUE.is("5: minutes " + wrong, feed.pass(wrong), ChangeFeed.BAD_VALUE);
        }
        for (int i = 2; i <= 99; i++) {
            DUE.is("5: on", feed.pass(999), 1000 + (i - 1) * 999);
        }
        DUE.is("5: far", feed.count(3), 98902);
        feed.pass(999);
        DUE.is("5: above the last minute", feed.pass(99), ChangeFeed.TOO_MANY);
        DUE.is("5: bad ahead of too many", feed.pass(1000), ChangeFeed.BAD_VALUE);
        DUE.is("5: the last minute", feed.pass(98), 99999);
        DUE.is("5: beyond it", feed.pass(1), ChangeFeed.TOO_MANY);
        DUE.is("5: the minute", feed.count(3), 99999);
    }

    private static void thinBySegments() {
        ChangeFeed feed = new ChangeFeed();
        feed.turn(ChangeFeed.SIZE, 3);
        feed.set(0, 1);
        feed.set(0, 2);
        DUE.is("6: the open segment stays", feed.thin(), 0);
        feed.set(1, 3);
        DUE.is("6: it closes when the next number leaves it", feed.thin(), 1);
        DUE.is("6: what is left", feed.entry(0, 0), 1);
        feed.set(0, 4);
        DUE.is("6: a later entry in the open segment", feed.thin(), 1);
        DUE.is("6: what is left then", feed.entry(0, 0), 2);
        DUE.is("6: the last one", feed.entry(1, 0), 3);
        DUE.is("6: entries that went", feed.count(5), 2);
        DUE.is("6: the floor", feed.count(4), 0);
        DUE.is("6: nothing more", feed.thin(), 0);
        DUE.is("6: undos", feed.count(12), 6);
    }

    private static void thinByGrace() {
        ChangeFeed feed = new ChangeFeed();
        feed.turn(ChangeFeed.SIZE, 1);
        feed.turn(ChangeFeed.GRACE, 10);
        feed.set(0, 1);
        feed.set(1, 1);
        feed.pass(5);
        feed.remove(0);
        feed.pass(10);
        DUE.is("6: the set one goes", feed.thin(), 1);
        DUE.is("6: the removal is told", feed.entry(1, 2), ChangeFeed.NONE);
        DUE.is("6: floor", feed.count(4), 0);
        feed.pass(1);
        DUE.is("6: more than GRACE passed", feed.thin(), 1);
        DUE.is("6: the floor is lifted", feed.count(4), 3);
        DUE.is("6: a set key stays", feed.entry(0, 1), 1);
        DUE.is("6: went", feed.count(5), 2);
        feed.turn(ChangeFeed.GRACE, 0);
        feed.remove(1);
        DUE.is("6: GRACE 0 at the same minute", feed.thin(), 1);
        feed.pass(1);
        DUE.is("6: GRACE 0 later", feed.thin(), 1);
        DUE.is("6: floor then", feed.count(4), 4);
        DUE.is("6: empty", feed.count(0), 0);
        DUE.is("6: the next number stays", feed.count(1), 4);
    }

    private static void floorNeverSinks() {
        ChangeFeed feed = new ChangeFeed();
        feed.turn(ChangeFeed.SIZE, 1);
        feed.set(0, 1);
        feed.set(1, 1);
        feed.remove(0);
        feed.pass(20);
        feed.remove(1);
        feed.turn(ChangeFeed.GRACE, 20);
        feed.pass(15);
        DUE.is("6: the older removal goes", feed.thin(), 3);
        DUE.is("6: its floor", feed.count(4), 3);
        feed.pass(6);
        feed.thin();
        DUE.is("6: the younger one lifts it", feed.count(4), 4);
        feed.set(5, 5);
        feed.set(5, 6);
        feed.thin();
        DUE.is("6: it stays", feed.count(4), 4);
    }

    private static void floorIsLiftedByRemovalsAlone() {
        ChangeFeed feed = new ChangeFeed();
        feed.turn(ChangeFeed.SIZE, 1);
        feed.turn(ChangeFeed.GRACE, 0);
        feed.set(0, 1);
        feed.remove(0);
        feed.set(0, 2);
        feed.pass(5);
        DUE.is("6: an old removal with a later entry goes as such", feed.thin(), 2);
        DUE.is("6: and lifts no floor", feed.count(4), 0);
        feed.turn(ChangeFeed.SIZE, 5);
        feed.remove(0);
        feed.pass(5);
        DUE.is("6: an old removal in the open segment stays", feed.thin(), 1 - 1);
        feed.set(1, 1);
        DUE.is("6: until it closes", feed.thin(), 2);
        DUE.is("6: and lifts the floor", feed.count(4), 4);
    }

    private static void thinWithAnotherSize() {
        ChangeFeed feed = new ChangeFeed();
        for (int i = 0; i < 10; i++) {
            feed.set(0, i);
        }
        feed.turn(ChangeFeed.SIZE, 20);
        DUE.is("6: one open segment", feed.thin(), 0);
        feed.turn(ChangeFeed.SIZE, 4);
        DUE.is("6: two closed ones", feed.thin(), 8);
        feed.turn(ChangeFeed.SIZE, 10);
        DUE.is("6: the size divides the next number", feed.thin(), 1);
    }

    private static void snapshot() {
        ChangeFeed feed = new ChangeFeed();
        DUE.is("7: of nothing", feed.snapshot(), 0);
        DUE.is("7: undos", feed.count(12), 1);
        for (int i = 1; i <= 5; i++) {
            feed.set(i, i);
            DUE.is("7: next number", feed.snapshot(), i);
            DUE.is("7: kept", feed.count(8), Math.min(i + 1, 4));
        }
        for (int i = 0; i < 4; i++) {
            DUE.is("7: the latest one first", feed.ofSnapshot(i, 0), 5 - i);
            DUE.is("7: its keys", feed.ofSnapshot(i, 1), 5 - i);
        }
        DUE.is("7: the fifth one is dropped", feed.ofSnapshot(4, 0), ChangeFeed.NO_SUCH);
        DUE.is("7: no entry comes", feed.count(0), 5);
    }

    private static void snapshotIsACopy() {
        ChangeFeed feed = new ChangeFeed();
        feed.set(0, 1);
        feed.snapshot();
        feed.set(0, 2);
        feed.set(1, 3);
        feed.reader();
        feed.load(0, 0);
        DUE.is("7: the table as it was", feed.view(0, 0), 1);
        DUE.is("7: without what came later", feed.view(0, 1), ChangeFeed.NONE);
    }
}
