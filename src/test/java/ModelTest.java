import java.util.ArrayList;
import java.util.List;
import java.util.TreeMap;

/**
 * Long runs of mixed calls against a second telling of the document, which is made of the library's
 * lists and maps and shares nothing with the program.
 */
public final class ModelTest {
    private static final int RUNS = 1500;
    private static final int CALLS = 512;

    private static final class Entry {
        int number;
        int key;
        int value;
        int minute;
    }

    private static final class Reader {
        int place;
        int confirmed;
        int readSoFar;
        TreeMap<Integer, Integer> view = new TreeMap<>();
        TreeMap<Integer, Integer> confirmedView = new TreeMap<>();

        Reader copy() {
            Reader copy = new Reader();
            copy.place = place;
            copy.confirmed = confirmed;
            copy.readSoFar = readSoFar;
            copy.view = new TreeMap<>(view);
            copy.confirmedView = new TreeMap<>(confirmedView);
            return copy;
        }
    }

    private static final class Snapshot {
        int number;
        TreeMap<Integer, Integer> table;
    }

    /** What undo and the slots bring back; entries and snapshots never change once they are made. */
    private static final class World {
        int size = 5;
        int grace = 30;
        int minute;
        int next;
        int floor;
        int gone;
        TreeMap<Integer, Integer> table = new TreeMap<>();
        List<Entry> entries = new ArrayList<>();
        List<Reader> readers = new ArrayList<>();
        List<Snapshot> snapshots = new ArrayList<>();

        World copy() {
            World copy = new World();
            copy.size = size;
            copy.grace = grace;
            copy.minute = minute;
            copy.next = next;
            copy.floor = floor;
            copy.gone = gone;
            copy.table = new TreeMap<>(table);
            copy.entries = new ArrayList<>(entries);
            for (Reader reader : readers) {
                copy.readers.add(reader.copy());
            }
            copy.snapshots = new ArrayList<>(snapshots);
            return copy;
        }

        int turn(int setting, int value) {
            if (setting == 0 && 1 <= value && value <= 20) {
                int before = size;
                size = value;
                return before;
            }
            if (setting == 1 && 0 <= value && value <= 999) {
                int before = grace;
                grace = value;
                return before;
            }
            return -2;
        }

        int tell(int key, int value) {
            Entry entry = new Entry();
            entry.number = next++;
            entry.key = key;
            entry.value = value;
            entry.minute = minute;
            entries.add(entry);
            if (value == -6) {
                table.remove(key);
            } else {
                table.put(key, value);
            }
            return entry.number;
        }

        int set(int key, int value) {
            return key < 0 || key > 11 ? -1 : value < 0 || value > 999 ? -2 : entries.size() == 60 ? -4 : tell(key, value);
        }

        int remove(int key) {
            return key < 0 || key > 11 ? -1 : entries.size() == 60 ? -4 : !table.containsKey(key) ? -5 : tell(key, -6);
        }

        int pass(int minutes) {
            if (minutes < 1 || minutes > 999) {
                return -2;
            }
            if (minute + minutes > 99999) {
                return -4;
            }
            minute += minutes;
            return minute;
        }

        boolean closed(Entry entry) {
            return entry.number / size < next / size;
        }

        boolean last(Entry entry) {
            return entries.stream().noneMatch(later -> later.key == entry.key && later.number > entry.number);
        }

        /** In two steps, as the document has it. */
        int thin() {
            int before = entries.size();
            List<Entry> covered = new ArrayList<>();
            for (Entry entry : entries) {
                if (closed(entry) && !last(entry)) {
                    covered.add(entry);
                }
            }
            entries.removeAll(covered);
            List<Entry> old = new ArrayList<>();
            for (Entry entry : entries) {
                if (closed(entry) && entry.value == -6 && minute - entry.minute > grace) {
                    old.add(entry);
                    if (entry.number + 1 > floor) {
                        floor = entry.number + 1;
                    }
                }
            }
            entries.removeAll(old);
            gone += before - entries.size();
            return before - entries.size();
        }

        World thinned(int minutes, int otherSize) {
            World then = copy();
            then.minute += minutes;
            then.size = otherSize;
            then.thin();
            return then;
        }

        int snapshot() {
            Snapshot snapshot = new Snapshot();
            snapshot.number = next;
            snapshot.table = new TreeMap<>(table);
            snapshots.add(0, snapshot);
            if (snapshots.size() > 4) {
                snapshots.remove(4);
            }
            return next;
        }

        int reader() {
            if (readers.size() == 6) {
                return -4;
            }
            readers.add(new Reader());
            return readers.size() - 1;
        }

        boolean no(int reader) {
            return reader < 0 || reader >= readers.size();
        }

        boolean late(int place) {
            return place > 0 && place < floor;
        }

        int ahead(int place) {
            return (int) entries.stream().filter(entry -> entry.number >= place).count();
        }

        int read(int reader, int many) {
            if (no(reader)) {
                return -1;
            }
            if (many < 1 || many > 99) {
                return -2;
            }
            Reader who = readers.get(reader);
            if (late(who.place)) {
                return -5;
            }
            int done = 0;
            for (Entry entry : entries) {
                if (entry.number < who.place || done == many) {
                    continue;
                }
                if (entry.value == -6) {
                    who.view.remove(entry.key);
                } else {
                    who.view.put(entry.key, entry.value);
                }
                who.place = entry.number + 1;
                who.readSoFar++;
                done++;
            }
            return done;
        }

        int confirm(int reader) {
            if (no(reader)) {
                return -1;
            }
            Reader who = readers.get(reader);
            who.confirmed = who.place;
            who.confirmedView = new TreeMap<>(who.view);
            return who.place;
        }

        int goBack(int reader) {
            if (no(reader)) {
                return -1;
            }
            Reader who = readers.get(reader);
            who.place = who.confirmed;
            who.view = new TreeMap<>(who.confirmedView);
            return who.place;
        }

        int place(int reader, int place, TreeMap<Integer, Integer> view) {
            Reader who = readers.get(reader);
            who.place = place;
            who.view = new TreeMap<>(view);
            return confirm(reader);
        }

        int beginAnew(int reader) {
            if (no(reader)) {
                return -1;
            }
            place(reader, 0, new TreeMap<>());
            return entries.size();
        }

        int load(int reader, int snapshot) {
            if (no(reader) || snapshot < 0 || snapshot >= snapshots.size()) {
                return -1;
            }
            Snapshot which = snapshots.get(snapshot);
            return late(which.number) ? -5 : place(reader, which.number, which.table);
        }

        int lateOnes() {
            int set = 0;
            for (int i = 0; i < readers.size(); i++) {
                set += late(readers.get(i).place) ? 1 << i : 0;
            }
            return set;
        }

        int differing(TreeMap<Integer, Integer> view) {
            int set = 0;
            for (int key = 0; key < 12; key++) {
                set += table.getOrDefault(key, -6).equals(view.getOrDefault(key, -6)) ? 0 : 1 << key;
            }
            return set;
        }

        /** By trying each way out on a copy. */
        int shortest(int reader, int what) {
            if (no(reader)) {
                return -1;
            }
            if (what < 0 || what > 1) {
                return -2;
            }
            int best = -1;
            int fewest = 1000;
            for (int way = 0; way <= 5; way++) {
                World tried = copy();
                int first = way == 0 ? 0 : way == 5 ? tried.beginAnew(reader) : tried.load(reader, way - 1);
                int entries = first < 0 ? -1 : tried.read(reader, 99);
                if (entries >= 0 && entries < fewest) {
                    best = way;
                    fewest = entries;
                }
            }
            return what == 0 ? best : fewest;
        }

        int gentlest() {
            int best = 0;
            for (int s = 1; s <= 20; s++) {
                if (best == 0 || thinned(0, s).entries.size() > thinned(0, best).entries.size()) {
                    best = s;
                }
            }
            return best;
        }

        int entry(int index, int what) {
            if (index < 0 || index >= entries.size()) {
                return -1;
            }
            Entry entry = entries.get(index);
            int[] told = {entry.number, entry.key, entry.value, entry.minute, last(entry) ? 1 : 0, closed(entry) ? 1 : 0};
            return what < 0 || what >= told.length ? -2 : told[what];
        }

        int ofReader(int reader, int what) {
            if (no(reader)) {
                return -1;
            }
            Reader who = readers.get(reader);
            int[] told = {who.place, who.confirmed, ahead(who.place), late(who.place) ? 1 : 0, who.readSoFar,
                differing(who.view), differing(who.confirmedView)};
            return what < 0 || what >= told.length ? -2 : told[what];
        }

        int ofSnapshot(int snapshot, int what) {
            if (snapshot < 0 || snapshot >= snapshots.size()) {
                return -1;
            }
            Snapshot which = snapshots.get(snapshot);
            int[] told = {which.number, which.table.size(), ahead(which.number)};
            return what < 0 || what >= told.length ? -2 : told[what];
        }
    }

    private World world = new World();
    private final List<World> history = new ArrayList<>();
    private final World[] slots = new World[2];
    private String pad = "";

    private int change(World before, int answer) {
        if (answer >= 0) {
            history.add(before);
            if (history.size() > 6) {
                history.remove(0);
            }
        }
        return answer;
    }

    private int put(long characters) {
        StringBuilder text = new StringBuilder();
        long rest = characters;
        while ((rest & 255) >= 33 && (rest & 255) <= 126) {
            text.insert(0, (char) (rest & 255));
            rest >>>= 8;
        }
        if (rest != 0 || text.length() == 0) {
            return -2;
        }
        if (pad.length() + text.length() > 80) {
            return -4;
        }
        pad += text;
        return pad.length();
    }

    private static final String NUMBER = "(0|[1-9][0-9]{0,2})";
    private static final java.util.regex.Pattern ORDER = java.util.regex.Pattern.compile(
        "p" + NUMBER + "=" + NUMBER + "|[xt]" + NUMBER + "|[hns]|r[0-5]\\*" + NUMBER + "|[cb][0-5]|l[0-5]@[0-9]");
    private static final java.util.regex.Pattern TEXT = java.util.regex.Pattern.compile(
        "(?:" + ORDER + ")(?:;(?:" + ORDER + "))*");

    /** The longest beginning that some text begins with: the pattern's own hitEnd() tells. */
    private static int fault(String pad) {
        for (int length = 1; length <= pad.length(); length++) {
            java.util.regex.Matcher matcher = TEXT.matcher(pad.substring(0, length));
            boolean whole = matcher.matches();
            if (!whole && !matcher.hitEnd()) {
                return length - 1;
            }
        }
        return TEXT.matcher(pad).matches() ? -6 : pad.length();
    }

    private int order(String order) {
        String[] parts = order.substring(1).split("[=*@]");
        int first = parts[0].isEmpty() ? 0 : Integer.parseInt(parts[0]);
        int second = parts.length < 2 ? 0 : Integer.parseInt(parts[1]);
        switch (order.charAt(0)) {
            case 'p': return world.set(first, second);
            case 'x': return world.remove(first);
            case 't': return world.pass(first);
            case 'h': return world.thin();
            case 'n': return world.reader();
            case 'r': return world.read(first, second);
            case 'c': return world.confirm(first);
            case 'b': return world.goBack(first);
            case 's': return world.snapshot();
            default: return world.load(first, second);
        }
    }

    private int carryOut() {
        if (fault(pad) != -6) {
            return -3;
        }
        int done = 0;
        for (String order : pad.split(";")) {
            if (order(order) < 0) {
                break;
            }
            done++;
        }
        pad = "";
        return done;
    }

    private int undo() {
        if (history.isEmpty()) {
            return -5;
        }
        world = history.remove(history.size() - 1);
        return history.size();
    }

    private int save(int slot) {
        if (slot < 0 || slot > 1) {
            return -2;
        }
        slots[slot] = world.copy();
        return world.entries.size();
    }

    private int restore(int slot) {
        if (slot < 0 || slot > 1) {
            return -2;
        }
        if (slots[slot] == null) {
            return -5;
        }
        world = slots[slot].copy();
        return world.entries.size();
    }

    private int count(int what) {
        int[] told = {world.entries.size(), world.next, world.table.size(), world.minute, world.floor, world.gone,
            world.readers.size(), world.lateOnes(), world.snapshots.size(), world.size, world.grace, pad.length(),
            history.size()};
        return what < 0 || what >= told.length ? -2 : told[what];
    }

    private int view(int reader, int key) {
        return world.no(reader) || key < 0 || key > 11 ? -1 : world.readers.get(reader).view.getOrDefault(key, -6);
    }

    private int leftIn(int minutes) {
        return minutes < 0 || minutes > 999 ? -2 : world.thinned(minutes, world.size).entries.size();
    }

    private int lateIn(int minutes) {
        return minutes < 0 || minutes > 999 ? -2 : world.thinned(minutes, world.size).lateOnes();
    }

    private int answer(int call, int a, int b, long characters) {
        World before = world.copy();
        switch (call) {
            case 0: return change(before, world.turn(a, b));
            case 1: return change(before, world.set(a, b));
            case 2: return change(before, world.remove(a));
            case 3: return change(before, world.pass(a));
            case 4: return change(before, world.thin());
            case 5: return change(before, world.snapshot());
            case 6: return change(before, world.reader());
            case 7: return change(before, world.read(a, b));
            case 8: return change(before, world.confirm(a));
            case 9: return change(before, world.goBack(a));
            case 10: return change(before, world.beginAnew(a));
            case 11: return change(before, world.load(a, b));
            case 12: return a < 0 || a > 11 ? -1 : world.table.getOrDefault(a, -6);
            case 13: return view(a, b);
            case 14: return world.entry(a, b);
            case 15: return world.ofReader(a, b);
            case 16: return world.ofSnapshot(a, b);
            case 17: return count(a);
            case 18: return leftIn(a);
            case 19: return lateIn(a);
            case 20: return world.shortest(a, b);
            case 21: return world.gentlest();
            case 22: return put(characters);
            case 23: {
                int had = pad.length();
                pad = "";
                return had;
            }
            case 24: return fault(pad);
            case 25: return change(before, carryOut());
            case 26: return undo();
            case 27: return save(a);
            default: return change(before, restore(a));
        }
    }

    private static int called(ChangeFeed feed, int call, int a, int b, long characters) {
        switch (call) {
            case 0: return feed.turn(a, b);
            case 1: return feed.set(a, b);
            case 2: return feed.remove(a);
            case 3: return feed.pass(a);
            case 4: return feed.thin();
            case 5: return feed.snapshot();
            case 6: return feed.reader();
            case 7: return feed.read(a, b);
            case 8: return feed.confirm(a);
            case 9: return feed.goBack(a);
            case 10: return feed.beginAnew(a);
            case 11: return feed.load(a, b);
            case 12: return feed.table(a);
            case 13: return feed.view(a, b);
            case 14: return feed.entry(a, b);
            case 15: return feed.ofReader(a, b);
            case 16: return feed.ofSnapshot(a, b);
            case 17: return feed.count(a);
            case 18: return feed.leftIn(a);
            case 19: return feed.lateIn(a);
            case 20: return feed.shortest(a, b);
            case 21: return feed.gentlest();
            case 22: return feed.put(characters);
            case 23: return feed.wipe();
            case 24: return feed.fault();
            case 25: return feed.carryOut();
            case 26: return feed.undo();
            case 27: return feed.save(a);
            default: return feed.restore(a);
        }
    }

    /** How often each call comes, and the bounds (outside by one) of its two arguments. */
    private static final int[][] CALLED = {
        {3, -1, 2, -1, 22}, {20, -1, 12, -1, 12}, {8, -1, 12, 0, 0}, {5, 0, 12, 0, 0}, {6, 0, 0, 0, 0}, {3, 0, 0, 0, 0},
        {2, 0, 0, 0, 0}, {10, -1, 5, 0, 6}, {4, -1, 5, 0, 0}, {3, -1, 5, 0, 0}, {1, -1, 6, 0, 0}, {3, -1, 5, -1, 4},
        {3, -1, 12, 0, 0}, {6, -1, 5, -1, 12}, {8, -1, 60, -1, 6}, {10, -1, 5, -1, 7}, {4, -1, 4, -1, 3}, {12, -1, 13, 0, 0},
        {4, -1, 60, 0, 0}, {4, -1, 60, 0, 0}, {6, -1, 5, -1, 2}, {3, 0, 0, 0, 0}, {14, 0, 0, 0, 0}, {1, 0, 0, 0, 0},
        {4, 0, 0, 0, 0}, {5, 0, 0, 0, 0}, {5, 0, 0, 0, 0}, {1, -1, 2, 0, 0}, {1, -1, 2, 0, 0}};

    private static final String[] PIECES = {"p1=2", "p0=7;p3=9", "x1", "x0;h", "t5", "t40;h", "h", "n", "r0*3", "r1*9;c1",
        "c0", "b0", "s", "l0@0", "l1@1", ";", ";", ";", ";", "0", "9", "=", "*", "@", "q", "p", "r", "p12=0", "t999"};
    private static final int[] FAR = {Integer.MIN_VALUE, Integer.MAX_VALUE, 998, 999, 1000, 99, 100, 59, 60};

    private long seed;

    /** Always the same numbers for the same run. */
    private int below(int bound) {
        seed = seed * 6364136223846793005L + 1442695040888963407L;
        return (int) ((seed >>> 33) % bound);
    }

    private int drawnCall() {
        int all = 0;
        for (int[] call : CALLED) {
            all += call[0];
        }
        int drawn = below(all);
        for (int call = 0; ; call++) {
            drawn -= CALLED[call][0];
            if (drawn < 0) {
                return call;
            }
        }
    }

    private int drawn(int lowest, int highest) {
        return below(25) == 0 ? FAR[below(FAR.length)] : lowest + below(highest - lowest + 1);
    }

    private long drawnCharacters(boolean tidy) {
        if (below(40) == 0) {
            return seed >>> (8 * below(8));
        }
        boolean needsMark = tidy && !pad.isEmpty() && fault(pad) == -6;
        String piece = needsMark ? ";" : PIECES[below(PIECES.length)];
        return Feeds.packed(piece.length() <= 8 ? piece : piece.substring(0, 8));
    }

    private void run(Due due, int run) {
        ChangeFeed feed = new ChangeFeed();
        seed = run * 7919L + 17;
        boolean tidy = run % 4 != 0;
        for (int i = 0; i < CALLS; i++) {
            int call = drawnCall();
            int a = drawn(CALLED[call][1], CALLED[call][2]);
            int b = drawn(CALLED[call][3], CALLED[call][4]);
            long characters = drawnCharacters(tidy);
            // Every third run goes long without thinning, so that the feed is full.
            if (run % 3 == 0 && call == 4 && below(8) != 0) {
                call = 1;
                a = below(12);
                b = below(1000);
            }
            int want = answer(call, a, b, characters);
            int got = called(feed, call, a, b, characters);
            due.is("run " + run + ", call " + i + ": " + call + "(" + a + ", " + b + ", " + characters + ")", got, want);
        }
    }

    public static void main(String[] args) {
        Due due = new Due("ModelTest");
        for (int run = 0; run < RUNS; run++) {
            new ModelTest().run(due, run);
        }
        due.end();
    }
}
