/**
 * A feed of changes of a table, with readers at their own places, as ../shared/DOC.md promises it.
 *
 * <p>All that undo and the slots bring back stands in one State. Every state that an object will
 * ever need is made with the object and copied over from then on, so that no call makes anything.
 */
public final class ChangeFeed {
    public static final int NO_SUCH = -1, BAD_VALUE = -2, BAD_TEXT = -3, TOO_MANY = -4, NOT_POSSIBLE = -5, NONE = -6;
    public static final int SIZE = 0, GRACE = 1;

    private static final int KEYS = 12;
    private static final int MOST_ENTRIES = 60;
    private static final int MOST_READERS = 6;
    private static final int MOST_SNAPSHOTS = 4;
    private static final int MOST_SIGNS = 80;
    private static final int MOST_UNDOS = 6;
    private static final int SLOTS = 2;

    private static final int HIGHEST_SIZE = 20;
    private static final int HIGHEST_NUMBER = 999;
    private static final int MOST_TO_READ = 99;
    private static final int LAST_MINUTE = 99999;

    private static final int READING_ON = 0;
    private static final int BEGINNING_ANEW = 5;

    private final State now = new State();
    private final History history = new History();
    private final Pad pad = new Pad();
    private final Slot[] slots = new Slot[SLOTS];

    public ChangeFeed() {
        for (int i = 0; i < slots.length; i++) {
            slots[i] = new Slot();
        }
    }

    // ---- the table

    public int turn(int setting, int value) {
        history.prepare(now);
        return history.settle(now.turnSetting(setting, value));
    }

    public int set(int key, int value) {
        history.prepare(now);
        return history.settle(now.setKey(key, value));
    }

    public int remove(int key) {
        history.prepare(now);
        return history.settle(now.removeKey(key));
    }

    public int pass(int minutes) {
        history.prepare(now);
        return history.settle(now.letPass(minutes));
    }

    public int thin() {
        history.prepare(now);
        return history.settle(now.thinFeed());
    }

    public int snapshot() {
        history.prepare(now);
        return history.settle(now.makeSnapshot());
    }

    // ---- readers

    public int reader() {
        history.prepare(now);
        return history.settle(now.addReader());
    }

    public int read(int reader, int many) {
        history.prepare(now);
        return history.settle(now.letRead(reader, many));
    }

    public int confirm(int reader) {
        history.prepare(now);
        return history.settle(now.letConfirm(reader));
    }

    public int goBack(int reader) {
        history.prepare(now);
        return history.settle(now.letGoBack(reader));
    }

    public int beginAnew(int reader) {
        history.prepare(now);
        return history.settle(now.letBeginAnew(reader));
    }

    public int load(int reader, int snapshot) {
        history.prepare(now);
        return history.settle(now.letLoad(reader, snapshot));
    }

    // ---- what there is

    public int table(int key) {
        return isKey(key) ? now.table.of(key) : NO_SUCH;
    }

    public int view(int reader, int key) {
        Reader who = now.readerAt(reader);
        if (who == null || !isKey(key)) {
            return NO_SUCH;
        }
        return who.view.of(key);
    }

    public int entry(int entry, int what) {
        Feed feed = now.feed;
        if (entry < 0 || entry >= feed.held) {
            return NO_SUCH;
        }
        switch (what) {
            case 0:
                return feed.numberAt(entry);
            case 1:
                return feed.keyAt(entry);
            case 2:
                return feed.valueAt(entry);
            case 3:
                return feed.minuteAt(entry);
            case 4:
                return oneIf(feed.isLastOfItsKey(entry));
            case 5:
                return oneIf(feed.isClosed(entry, now.size));
            default:
                return BAD_VALUE;
        }
    }

    public int ofReader(int reader, int what) {
        Reader who = now.readerAt(reader);
        if (who == null) {
            return NO_SUCH;
        }
        switch (what) {
            case 0:
                return who.place;
            case 1:
                return who.confirmedPlace;
            case 2:
                return now.feed.aheadOf(who.place);
            case 3:
                return oneIf(isLate(who.place, now.feed.floor));
            case 4:
                return who.readSoFar;
            case 5:
                return who.view.differingFrom(now.table);
            case 6:
                return who.confirmedView.differingFrom(now.table);
            default:
                return BAD_VALUE;
        }
    }

    public int ofSnapshot(int snapshot, int what) {
        Snapshot which = now.snapshotAt(snapshot);
        if (which == null) {
            return NO_SUCH;
        }
        switch (what) {
            case 0:
                return which.number;
            case 1:
                return which.table.howMany();
            case 2:
                return now.feed.aheadOf(which.number);
            default:
                return BAD_VALUE;
        }
    }

    public int count(int what) {
        switch (what) {
            case 0:
                return now.feed.held;
            case 1:
                return now.feed.next;
            case 2:
                return now.table.howMany();
            case 3:
                return now.minute;
            case 4:
                return now.feed.floor;
            case 5:
                return now.feed.gone;
            case 6:
                return now.readerCount;
            case 7:
                return now.lateBelow(now.feed.floor);
            case 8:
                return now.snapshotCount;
            case 9:
                return now.size;
            case 10:
                return now.grace;
            case 11:
                return pad.length;
            case 12:
                return history.held;
            default:
                return BAD_VALUE;
        }
    }

    // ---- what if; nothing changes

    public int leftIn(int minutes) {
        if (!isNumber(minutes)) {
            return BAD_VALUE;
        }
        return now.feed.leftAfterThinning(now.size, now.grace, now.minute + minutes);
    }

    public int lateIn(int minutes) {
        if (!isNumber(minutes)) {
            return BAD_VALUE;
        }
        return now.lateBelow(now.feed.floorAfterThinning(now.size, now.grace, now.minute + minutes));
    }

    public int shortest(int reader, int what) {
        Reader who = now.readerAt(reader);
        if (who == null) {
            return NO_SUCH;
        }
        if (what < 0 || what > 1) {
            return BAD_VALUE;
        }
        int way = now.shortestWay(who);
        return what == 0 ? way : now.entriesOnWay(who, way);
    }

    public int gentlest() {
        int best = 1;
        int most = now.feed.leftAfterThinning(best, now.grace, now.minute);
        for (int size = 2; size <= HIGHEST_SIZE; size++) {
            int left = now.feed.leftAfterThinning(size, now.grace, now.minute);
            if (left > most) {
                best = size;
                most = left;
            }
        }
        return best;
    }

    // ---- texts

    public int put(long characters) {
        return pad.append(characters);
    }

    public int wipe() {
        return pad.empty();
    }

    public int fault() {
        return pad.firstFault();
    }

    public int carryOut() {
        if (pad.firstFault() != NONE) {
            return BAD_TEXT;
        }
        history.prepare(now);
        int carriedOut = 0;
        pad.goToStart();
        // A text has no more orders than characters, and at its end no order can be taken.
        while (carriedOut < MOST_SIGNS && pad.takeOrder() && carryOutOrder() >= 0) {
            carriedOut++;
            pad.takeSign(';');
        }
        pad.empty();
        return history.settle(carriedOut);
    }

    /** Goes to the state itself, as an order of a text records nothing. */
    private int carryOutOrder() {
        switch (pad.letter) {
            case 'p':
                return now.setKey(pad.first, pad.second);
            case 'x':
                return now.removeKey(pad.first);
            case 't':
                return now.letPass(pad.first);
            case 'h':
                return now.thinFeed();
            case 'n':
                return now.addReader();
            case 'r':
                return now.letRead(pad.first, pad.second);
            case 'c':
                return now.letConfirm(pad.first);
            case 'b':
                return now.letGoBack(pad.first);
            case 's':
                return now.makeSnapshot();
            case 'l':
                return now.letLoad(pad.first, pad.second);
            default:
                return BAD_TEXT;
        }
    }

    // ---- undo, saving

    public int undo() {
        return history.bringBack(now);
    }

    public int save(int slot) {
        Slot which = slotAt(slot);
        if (which == null) {
            return BAD_VALUE;
        }
        which.state.copyFrom(now);
        which.isUsed = true;
        return now.feed.held;
    }

    public int restore(int slot) {
        Slot which = slotAt(slot);
        if (which == null) {
            return BAD_VALUE;
        }
        if (!which.isUsed) {
            return NOT_POSSIBLE;
        }
        history.prepare(now);
        now.copyFrom(which.state);
        return history.settle(now.feed.held);
    }

    private Slot slotAt(int slot) {
        return slot < 0 || slot >= slots.length ? null : slots[slot];
    }

    // ---- small questions, and rows of numbers

    private static boolean isKey(int key) {
        return key >= 0 && key < KEYS;
    }

    /** Values, minutes that pass, GRACE and the numbers of texts have the same range. */
    private static boolean isNumber(int number) {
        return number >= 0 && number <= HIGHEST_NUMBER;
    }

    private static boolean isLate(int place, int floor) {
        return place > 0 && place < floor;
    }

    private static int oneIf(boolean is) {
        return is ? 1 : 0;
    }

    /** With layAt and copyRow, the only place that reaches into a row: each index is looked at. */
    private static int at(int[] row, int index) {
        if (index < 0 || index >= row.length) {
            return 0;
        }
        return row[index];
    }

    private static void layAt(int[] row, int index, int number) {
        if (index >= 0 && index < row.length) {
            row[index] = number;
        }
    }

    private static void copyRow(int[] from, int[] to) {
        for (int i = 0; i < from.length && i < to.length; i++) {
            to[i] = from[i];
        }
    }

    /** For each key a value, or NONE: the table, and every view of it. */
    private static final class Values {
        private final int[] values = new int[KEYS];

        Values() {
            clear();
        }

        void clear() {
            for (int key = 0; key < KEYS; key++) {
                layAt(values, key, NONE);
            }
        }

        void copyFrom(Values other) {
            copyRow(other.values, values);
        }

        int of(int key) {
            return at(values, key);
        }

        void change(int key, int value) {
            layAt(values, key, value);
        }

        int howMany() {
            int many = 0;
            for (int key = 0; key < KEYS; key++) {
                if (of(key) != NONE) {
                    many++;
                }
            }
            return many;
        }

        int differingFrom(Values other) {
            int keys = 0;
            for (int key = 0; key < KEYS; key++) {
                if (of(key) != other.of(key)) {
                    keys |= 1 << key;
                }
            }
            return keys;
        }
    }

    /** The entries, the oldest one first; so their numbers rise. */
    private static final class Feed {
        private final int[] numbers = new int[MOST_ENTRIES];
        private final int[] keys = new int[MOST_ENTRIES];
        private final int[] values = new int[MOST_ENTRIES];
        private final int[] minutes = new int[MOST_ENTRIES];
        int held = 0;
        int next = 0;
        int floor = 0;
        int gone = 0;

        void copyFrom(Feed other) {
            copyRow(other.numbers, numbers);
            copyRow(other.keys, keys);
            copyRow(other.values, values);
            copyRow(other.minutes, minutes);
            held = other.held;
            next = other.next;
            floor = other.floor;
            gone = other.gone;
        }

        int numberAt(int index) {
            return at(numbers, index);
        }

        int keyAt(int index) {
            return at(keys, index);
        }

        int valueAt(int index) {
            return at(values, index);
        }

        int minuteAt(int index) {
            return at(minutes, index);
        }

        boolean isFull() {
            return held >= MOST_ENTRIES;
        }

        int append(int key, int value, int minute) {
            int number = next;
            layEntry(held, number, key, value, minute);
            held++;
            next++;
            return number;
        }

        private void layEntry(int index, int number, int key, int value, int minute) {
            layAt(numbers, index, number);
            layAt(keys, index, key);
            layAt(values, index, value);
            layAt(minutes, index, minute);
        }

        int firstFrom(int place) {
            for (int i = 0; i < held; i++) {
                if (at(numbers, i) >= place) {
                    return i;
                }
            }
            return held;
        }

        int aheadOf(int place) {
            return held - firstFrom(place);
        }

        boolean isLastOfItsKey(int index) {
            for (int later = index + 1; later < held; later++) {
                if (at(keys, later) == at(keys, index)) {
                    return false;
                }
            }
            return true;
        }

        boolean isClosed(int index, int size) {
            return segmentOf(at(numbers, index), size) != segmentOf(next, size);
        }

        private static int segmentOf(int number, int size) {
            return size < 1 ? 0 : number / size;
        }

        private boolean isOldRemoval(int index, int grace, int minute) {
            return at(values, index) == NONE && minute - at(minutes, index) > grace;
        }

        private boolean wouldGo(int index, int size, int grace, int minute) {
            return isClosed(index, size)
                    && (!isLastOfItsKey(index) || isOldRemoval(index, grace, minute));
        }

        int leftAfterThinning(int size, int grace, int minute) {
            int left = 0;
            for (int i = 0; i < held; i++) {
                if (!wouldGo(i, size, grace, minute)) {
                    left++;
                }
            }
            return left;
        }

        /** The last entry of a key goes only as an old removal, and only such removals lift the floor. */
        int floorAfterThinning(int size, int grace, int minute) {
            int lifted = floor;
            for (int i = 0; i < held; i++) {
                if (isLastOfItsKey(i) && wouldGo(i, size, grace, minute)) {
                    lifted = Math.max(lifted, numberAt(i) + 1);
                }
            }
            return lifted;
        }

        int thinOut(int size, int grace, int minute) {
            int left = 0;
            for (int i = 0; i < held; i++) {
                // Whether one goes depends on itself and on later ones alone, which still lie where they were.
                if (!wouldGo(i, size, grace, minute)) {
                    layEntry(left, numberAt(i), keyAt(i), valueAt(i), minuteAt(i));
                    left++;
                }
            }
            int going = held - left;
            held = left;
            gone += going;
            return going;
        }
    }

    private static final class Reader {
        int place = 0;
        int confirmedPlace = 0;
        int readSoFar = 0;
        final Values view = new Values();
        final Values confirmedView = new Values();

        void copyFrom(Reader other) {
            place = other.place;
            confirmedPlace = other.confirmedPlace;
            readSoFar = other.readSoFar;
            view.copyFrom(other.view);
            confirmedView.copyFrom(other.confirmedView);
        }

        void startOver() {
            place = 0;
            view.clear();
            keepPlace();
        }

        void keepPlace() {
            confirmedPlace = place;
            confirmedView.copyFrom(view);
        }

        void returnToConfirmed() {
            place = confirmedPlace;
            view.copyFrom(confirmedView);
        }

        void takeOver(Snapshot snapshot) {
            place = snapshot.number;
            view.copyFrom(snapshot.table);
            keepPlace();
        }

        int readOn(Feed feed, int many) {
            int start = feed.firstFrom(place);
            int reading = Math.min(many, feed.held - start);
            for (int i = start; i < start + reading; i++) {
                view.change(feed.keyAt(i), feed.valueAt(i));
                place = feed.numberAt(i) + 1;
            }
            readSoFar += reading;
            return reading;
        }
    }

    private static final class Snapshot {
        int number = 0;
        final Values table = new Values();

        void copyFrom(Snapshot other) {
            number = other.number;
            table.copyFrom(other.table);
        }
    }

    /** All but the pad, the slots and the history; its changes record nothing. */
    private static final class State {
        int size = 5;
        int grace = 30;
        int minute = 0;
        int readerCount = 0;
        int snapshotCount = 0;
        final Values table = new Values();
        final Feed feed = new Feed();
        private final Reader[] readers = new Reader[MOST_READERS];
        private final Snapshot[] snapshots = new Snapshot[MOST_SNAPSHOTS];

        State() {
            for (int i = 0; i < readers.length; i++) {
                readers[i] = new Reader();
            }
            for (int i = 0; i < snapshots.length; i++) {
                snapshots[i] = new Snapshot();
            }
        }

        void copyFrom(State other) {
            size = other.size;
            grace = other.grace;
            minute = other.minute;
            readerCount = other.readerCount;
            snapshotCount = other.snapshotCount;
            table.copyFrom(other.table);
            feed.copyFrom(other.feed);
            for (int i = 0; i < readerCount; i++) {
                Reader mine = readerAt(i);
                Reader theirs = other.readerAt(i);
                if (mine != null && theirs != null) {
                    mine.copyFrom(theirs);
                }
            }
            for (int i = 0; i < snapshotCount; i++) {
                copySnapshot(other.snapshotAt(i), snapshotAt(i));
            }
        }

        private static void copySnapshot(Snapshot from, Snapshot to) {
            if (from != null && to != null) {
                to.copyFrom(from);
            }
        }

        Reader readerAt(int reader) {
            return reader < 0 || reader >= readerCount || reader >= readers.length ? null : readers[reader];
        }

        Snapshot snapshotAt(int snapshot) {
            return snapshot < 0 || snapshot >= snapshotCount || snapshot >= snapshots.length
                    ? null : snapshots[snapshot];
        }

        int turnSetting(int setting, int value) {
            int previous;
            if (setting == SIZE && value >= 1 && value <= HIGHEST_SIZE) {
                previous = size;
                size = value;
            } else if (setting == GRACE && isNumber(value)) {
                previous = grace;
                grace = value;
            } else {
                previous = BAD_VALUE;
            }
            return previous;
        }

        int setKey(int key, int value) {
            if (!isKey(key)) {
                return NO_SUCH;
            }
            if (!isNumber(value)) {
                return BAD_VALUE;
            }
            if (feed.isFull()) {
                return TOO_MANY;
            }
            table.change(key, value);
            return feed.append(key, value, minute);
        }

        int removeKey(int key) {
            if (!isKey(key)) {
                return NO_SUCH;
            }
            if (feed.isFull()) {
                return TOO_MANY;
            }
            if (table.of(key) == NONE) {
                return NOT_POSSIBLE;
            }
            table.change(key, NONE);
            return feed.append(key, NONE, minute);
        }

        int letPass(int minutes) {
            if (minutes < 1 || !isNumber(minutes)) {
                return BAD_VALUE;
            }
            if (minute + minutes > LAST_MINUTE) {
                return TOO_MANY;
            }
            minute += minutes;
            return minute;
        }

        int thinFeed() {
            feed.floor = feed.floorAfterThinning(size, grace, minute);
            return feed.thinOut(size, grace, minute);
        }

        int makeSnapshot() {
            if (snapshotCount < MOST_SNAPSHOTS) {
                snapshotCount++;
            }
            for (int i = snapshotCount - 1; i > 0; i--) {
                copySnapshot(snapshotAt(i - 1), snapshotAt(i));
            }
            Snapshot latest = snapshotAt(0);
            if (latest != null) {
                latest.number = feed.next;
                latest.table.copyFrom(table);
            }
            return feed.next;
        }

        int addReader() {
            if (readerCount >= MOST_READERS) {
                return TOO_MANY;
            }
            int number = readerCount;
            readerCount++;
            Reader who = readerAt(number);
            if (who != null) {
                // Before an undo or a restore another reader may have had this number.
                who.startOver();
                who.readSoFar = 0;
            }
            return number;
        }

        int letRead(int reader, int many) {
            Reader who = readerAt(reader);
            if (who == null) {
                return NO_SUCH;
            }
            if (many < 1 || many > MOST_TO_READ) {
                return BAD_VALUE;
            }
            if (isLate(who.place, feed.floor)) {
                return NOT_POSSIBLE;
            }
            return who.readOn(feed, many);
        }

        int letConfirm(int reader) {
            Reader who = readerAt(reader);
            if (who == null) {
                return NO_SUCH;
            }
            who.keepPlace();
            return who.place;
        }

        int letGoBack(int reader) {
            Reader who = readerAt(reader);
            if (who == null) {
                return NO_SUCH;
            }
            who.returnToConfirmed();
            return who.place;
        }

        int letBeginAnew(int reader) {
            Reader who = readerAt(reader);
            if (who == null) {
                return NO_SUCH;
            }
            who.startOver();
            return feed.aheadOf(who.place);
        }

        int letLoad(int reader, int snapshot) {
            Reader who = readerAt(reader);
            Snapshot which = snapshotAt(snapshot);
            if (who == null || which == null) {
                return NO_SUCH;
            }
            if (isLate(which.number, feed.floor)) {
                return NOT_POSSIBLE;
            }
            who.takeOver(which);
            return who.place;
        }

        int lateBelow(int floor) {
            int late = 0;
            for (int i = 0; i < readerCount; i++) {
                Reader who = readerAt(i);
                if (who != null && isLate(who.place, floor)) {
                    late |= 1 << i;
                }
            }
            return late;
        }

        /** NONE if the way cannot be gone. */
        int entriesOnWay(Reader who, int way) {
            if (way == BEGINNING_ANEW) {
                return feed.held;
            }
            if (way == READING_ON) {
                return aheadUnlessLate(who.place);
            }
            Snapshot which = snapshotAt(way - 1);
            return which == null ? NONE : aheadUnlessLate(which.number);
        }

        private int aheadUnlessLate(int place) {
            return isLate(place, feed.floor) ? NONE : feed.aheadOf(place);
        }

        int shortestWay(Reader who) {
            // Beginning anew can always be done; the lower ways come later, so that they win when they are equal.
            int best = BEGINNING_ANEW;
            int fewest = entriesOnWay(who, best);
            for (int way = BEGINNING_ANEW - 1; way >= READING_ON; way--) {
                int entries = entriesOnWay(who, way);
                if (entries != NONE && entries <= fewest) {
                    best = way;
                    fewest = entries;
                }
            }
            return best;
        }
    }

    /** What was saved in a slot, if anything was. */
    private static final class Slot {
        boolean isUsed = false;
        final State state = new State();
    }

    /** The states before the latest changes, the oldest one first, and one more behind them to prepare. */
    private static final class History {
        private final State[] states = new State[MOST_UNDOS + 1];
        int held = 0;

        History() {
            for (int i = 0; i < states.length; i++) {
                states[i] = new State();
            }
        }

        private State stateAt(int index) {
            return index < 0 || index >= states.length ? null : states[index];
        }

        /** Before a change, as only its answer tells whether the state before it counts. */
        void prepare(State now) {
            State prepared = stateAt(held);
            if (prepared != null) {
                prepared.copyFrom(now);
            }
        }

        /** Counts the prepared state if the change gave no error; returns the change's answer. */
        int settle(int answer) {
            if (answer < 0) {
                return answer;
            }
            if (held < MOST_UNDOS) {
                held++;
            } else {
                dropOldest();
            }
            return answer;
        }

        private void dropOldest() {
            State oldest = stateAt(0);
            for (int i = 1; i < states.length; i++) {
                states[i - 1] = states[i];
            }
            if (states.length > 0) {
                states[states.length - 1] = oldest;
            }
        }

        int bringBack(State now) {
            State latest = stateAt(held - 1);
            if (latest == null) {
                return NOT_POSSIBLE;
            }
            now.copyFrom(latest);
            held--;
            return held;
        }
    }

    /** The text, and a walk over it from order to order. */
    private static final class Pad {
        private static final int SIGNS_AT_ONCE = 8;
        private static final int LOWEST_SIGN = 33;
        private static final int HIGHEST_SIGN = 126;
        private static final int NO_SIGN = 0;
        private static final int MOST_DIGITS = 3;

        private final int[] signs = new int[MOST_SIGNS];
        int length = 0;
        private int place = 0;
        int letter = NO_SIGN;
        int first = 0;
        int second = 0;

        int append(long characters) {
            int many = 0;
            boolean ended = false;
            for (int i = 0; i < SIGNS_AT_ONCE; i++) {
                int sign = signFromTheEnd(characters, i);
                if (sign == NO_SIGN) {
                    ended = true;
                } else if (ended || sign < LOWEST_SIGN || sign > HIGHEST_SIGN) {
                    return BAD_VALUE;
                } else {
                    many++;
                }
            }
            if (many == 0) {
                return BAD_VALUE;
            }
            if (length + many > MOST_SIGNS) {
                return TOO_MANY;
            }
            for (int i = many - 1; i >= 0; i--) {
                layAt(signs, length, signFromTheEnd(characters, i));
                length++;
            }
            return length;
        }

        private static int signFromTheEnd(long characters, int index) {
            return (int) ((characters >>> (8 * index)) & 255);
        }

        int empty() {
            int had = length;
            length = 0;
            return had;
        }

        void goToStart() {
            place = 0;
        }

        /** Each step of the walk stays before what cannot stand there: so the fault is where it stops. */
        int firstFault() {
            goToStart();
            for (int i = 0; i < MOST_SIGNS; i++) {
                if (!takeOrder()) {
                    return place;
                }
                if (place >= length) {
                    return NONE;
                }
                if (!takeSign(';')) {
                    return place;
                }
            }
            return place;
        }

        boolean takeOrder() {
            letter = signHere();
            switch (letter) {
                case 'h':
                case 'n':
                case 's':
                    return takeSign(letter);
                case 'x':
                case 't':
                    return takeSign(letter) && takeFirst(takeNumber());
                case 'c':
                case 'b':
                    return takeSign(letter) && takeFirst(takeReader());
                case 'p':
                    return takeSign(letter) && takeFirst(takeNumber())
                            && takeSign('=') && takeSecond(takeNumber());
                case 'r':
                    return takeSign(letter) && takeFirst(takeReader())
                            && takeSign('*') && takeSecond(takeNumber());
                case 'l':
                    return takeSign(letter) && takeFirst(takeReader())
                            && takeSign('@') && takeSecond(takeDigit(9));
                default:
                    return false;
            }
        }

        private boolean takeFirst(int number) {
            first = number;
            return number != NONE;
        }

        private boolean takeSecond(int number) {
            second = number;
            return number != NONE;
        }

        private int signHere() {
            return place < length ? at(signs, place) : NO_SIGN;
        }

        boolean takeSign(int sign) {
            if (signHere() != sign) {
                return false;
            }
            place++;
            return true;
        }

        private int takeReader() {
            return takeDigit(MOST_READERS - 1);
        }

        /** NONE if no digit from 0 to the highest one stands here. */
        private int takeDigit(int highest) {
            int digit = signHere() - '0';
            if (digit < 0 || digit > highest) {
                return NONE;
            }
            place++;
            return digit;
        }

        /** A digit after a 0, or a fourth one, is left where it is: nothing that follows a number takes it. */
        private int takeNumber() {
            int number = takeDigit(9);
            if (number <= 0) {
                return number;
            }
            for (int i = 1; i < MOST_DIGITS; i++) {
                int digit = takeDigit(9);
                if (digit == NONE) {
                    return number;
                }
                number = 10 * number + digit;
            }
            return number;
        }
    }
}
