import java.util.ArrayList;

/**
 * A store of cells by rows and columns, with a log, a table in memory, and runs that are merged by tiers.
 * The promises that it keeps stand in the document (DOC.md).
 */
public final class WideStore {
    public static final int NONE = -1;

    private static final int ROWS = 16;
    private static final int COLUMNS = 8;
    private static final int MAX_STAMP = 9999;
    private static final int MAX_LIFE = 100;
    private static final int MAX_TICKS = 100;
    private static final int MIN_CAP = 2;
    private static final int MAX_CAP = 20;
    private static final int MAX_GRACE = 50;
    private static final int RUNS_OF_A_TIER = 3;

    // An object is used for at most so many calls, and a call adds at most one entry to the log.
    private static final int MAX_LOG = 512;

    // Later than every tick, so that a cell that never ends needs no rule of its own.
    private static final int NEVER = 2147483647;

    // With the same stamp the greater kind wins.
    private static final int CELL = 0;
    private static final int DELETION = 1;
    private static final int WIPE = 2;

    // A table has one slot for each row and column, then one for each row and pair of columns.
    private static final int POINT_SLOTS = ROWS * COLUMNS;
    private static final int WIPES_OF_A_ROW = COLUMNS * (COLUMNS + 1) / 2;
    private static final int SLOTS = POINT_SLOTS + ROWS * WIPES_OF_A_ROW;

    private final int cap;
    private final int grace;
    private final Entry[] log;
    private final ArrayList<Table> runs;
    private Table memory;
    private int logSize;
    private int safeSize;
    private int now;

    public WideStore(int cap, int grace) {
        this.cap = Math.max(MIN_CAP, Math.min(MAX_CAP, cap));
        this.grace = Math.max(0, Math.min(MAX_GRACE, grace));
        this.log = new Entry[MAX_LOG];
        this.runs = new ArrayList<Table>();
        this.memory = new Table(0);
        this.logSize = 0;
        this.safeSize = 0;
        this.now = 0;
    }

    public boolean put(int row, int column, int stamp, int value, int life) {
        if (!isPlace(row, column) || !isStamp(stamp) || life < 0 || life > MAX_LIFE) {
            return false;
        }
        int end = life == 0 ? NEVER : now + life;
        return addEntry(new Entry(CELL, pointSlot(row, column), stamp, value, end));
    }

    public boolean delete(int row, int column, int stamp) {
        if (!isPlace(row, column) || !isStamp(stamp)) {
            return false;
        }
        return addEntry(new Entry(DELETION, pointSlot(row, column), stamp, 0, now));
    }

    public boolean wipe(int row, int first, int last, int stamp) {
        if (!isPlace(row, first) || !isPlace(row, last) || first > last || !isStamp(stamp)) {
            return false;
        }
        return addEntry(new Entry(WIPE, wipeSlot(row, first, last), stamp, 0, now));
    }

    public int get(int row, int column) {
        Entry cell = seenCell(row, column);
        return cell == null ? 0 : cell.value;
    }

    public int stamp(int row, int column) {
        Entry cell = seenCell(row, column);
        return cell == null ? NONE : cell.stamp;
    }

    public int next(int row, int column) {
        for (int c = Math.max(0, column); c < COLUMNS; c++) {
            if (seenCell(row, c) != null) {
                return c;
            }
        }
        return NONE;
    }

    public int nextRow(int row) {
        for (int r = Math.max(0, row); r < ROWS; r++) {
            if (next(r, 0) != NONE) {
                return r;
            }
        }
        return NONE;
    }

    public int flush() {
        int flushed = memory.size;
        flushMemory();
        return flushed;
    }

    public int merge() {
        if (runs.isEmpty()) {
            return 0;
        }
        return mergeFrom(0, greatestTier()).size;
    }

    public int sync() {
        safeSize = logSize;
        return safeSize;
    }

    public int crash() {
        memory.clearSlots();
        for (int i = 0; i < safeSize; i++) {
            memory.addWinner(log[i]);
        }
        logSize = safeSize;
        return safeSize;
    }

    public int tick(int n) {
        if (n >= 0 && n <= MAX_TICKS) {
            now += n;
        }
        return now;
    }

    public int count(int what) {
        switch (what) {
            case 0:
                return memory.size;
            case 1:
                return runs.size();
            case 2:
                return logSize;
            case 3:
                return safeSize;
            default:
                return NONE;
        }
    }

    public int run(int k, int what) {
        if (k < 0 || k >= runs.size()) {
            return NONE;
        }
        Table run = runs.get(k);
        switch (what) {
            case 0:
                return run.size;
            case 1:
                return run.tier;
            case 2:
                return run.wipes;
            default:
                return NONE;
        }
    }

    private static boolean isPlace(int row, int column) {
        return row >= 0 && row < ROWS && column >= 0 && column < COLUMNS;
    }

    private static boolean isStamp(int stamp) {
        return stamp >= 0 && stamp <= MAX_STAMP;
    }

    private static int pointSlot(int row, int column) {
        return row * COLUMNS + column;
    }

    private static int wipeSlot(int row, int first, int last) {
        return POINT_SLOTS + row * WIPES_OF_A_ROW + last * (last + 1) / 2 + first;
    }

    private boolean addEntry(Entry entry) {
        // Only an object that is used for more calls than the document allows can have a full log.
        if (logSize >= MAX_LOG) {
            return false;
        }
        log[logSize] = entry;
        logSize++;
        memory.addWinner(entry);
        if (memory.size > cap) {
            flushMemory();
        }
        return true;
    }

    private void flushMemory() {
        if (memory.size == 0) {
            return;
        }
        runs.add(memory);
        memory = new Table(0);
        logSize = 0;
        safeSize = 0;
        // Every merge leaves fewer runs, so there are never more merges than runs.
        for (int left = runs.size(); left > 0 && newestAreOfOneTier(); left--) {
            int oldest = runs.size() - RUNS_OF_A_TIER;
            mergeFrom(oldest, runs.get(oldest).tier + 1);
        }
    }

    private boolean newestAreOfOneTier() {
        int oldest = runs.size() - RUNS_OF_A_TIER;
        if (oldest < 0) {
            return false;
        }
        int tier = runs.get(oldest).tier;
        for (int k = oldest + 1; k < runs.size(); k++) {
            if (runs.get(k).tier != tier) {
                return false;
            }
        }
        return true;
    }

    private int greatestTier() {
        int greatest = 0;
        for (int k = 0; k < runs.size(); k++) {
            greatest = Math.max(greatest, runs.get(k).tier);
        }
        return greatest;
    }

    /** Merges run number oldest and all newer ones into one, which takes their place. */
    private Table mergeFrom(int oldest, int tier) {
        Table merged = new Table(tier);
        for (int k = oldest; k < runs.size(); k++) {
            merged.addWinners(runs.get(k));
        }
        merged.dropCovered();
        // A deletion is dropped only when no older run can have what it hides.
        if (oldest == 0) {
            merged.dropOld(now, grace);
        }
        for (int k = runs.size() - 1; k >= oldest; k--) {
            runs.remove(k);
        }
        runs.add(merged);
        return merged;
    }

    private Entry seenCell(int row, int column) {
        if (!isPlace(row, column)) {
            return null;
        }
        Entry point = winningPoint(row, column);
        if (point == null || point.kind != CELL || point.time <= now) {
            return null;
        }
        return isCovered(row, column, point.stamp) ? null : point;
    }

    private Entry winningPoint(int row, int column) {
        Entry winner = memory.pointAt(row, column);
        for (int k = 0; k < runs.size(); k++) {
            Entry point = runs.get(k).pointAt(row, column);
            if (point != null && (winner == null || point.winsOver(winner))) {
                winner = point;
            }
        }
        return winner;
    }

    private boolean isCovered(int row, int column, int stamp) {
        if (memory.covers(row, column, stamp)) {
            return true;
        }
        for (int k = 0; k < runs.size(); k++) {
            if (runs.get(k).covers(row, column, stamp)) {
                return true;
            }
        }
        return false;
    }

    /** A cell, a deletion or a wipe; it never changes, so that log, memory and runs can share it. */
    private static final class Entry {
        final int kind;
        final int slot;
        final int stamp;
        final int value;
        // When a cell ends, or when a deletion or wipe was made: winning and dropping treat both alike.
        final int time;

        Entry(int kind, int slot, int stamp, int value, int time) {
            this.kind = kind;
            this.slot = slot;
            this.stamp = stamp;
            this.value = value;
            this.time = time;
        }

        /** Whether this wins over another entry of the same slot. */
        boolean winsOver(Entry other) {
            if (stamp != other.stamp) {
                return stamp > other.stamp;
            }
            if (kind != other.kind) {
                return kind > other.kind;
            }
            if (value != other.value) {
                return value > other.value;
            }
            return time > other.time;
        }
    }

    /** Entries, at most one in a slot: the memory, or a run, which is not changed once it is among the runs. */
    private static final class Table {
        final int tier;
        private final Entry[] slots;
        int size;
        int wipes;

        Table(int tier) {
            this.tier = tier;
            this.slots = new Entry[SLOTS];
            this.size = 0;
            this.wipes = 0;
        }

        Entry pointAt(int row, int column) {
            return slots[pointSlot(row, column)];
        }

        void addWinner(Entry entry) {
            Entry held = slots[entry.slot];
            if (held == null) {
                slots[entry.slot] = entry;
                size++;
                wipes += entry.kind == WIPE ? 1 : 0;
            } else if (entry.winsOver(held)) {
                slots[entry.slot] = entry;
            }
        }

        void addWinners(Table other) {
            for (int slot = 0; slot < SLOTS; slot++) {
                if (other.slots[slot] != null) {
                    addWinner(other.slots[slot]);
                }
            }
        }

        /** Whether a wipe of this table covers a point with that stamp. */
        boolean covers(int row, int column, int stamp) {
            if (wipes == 0) {
                return false;
            }
            for (int first = 0; first <= column; first++) {
                for (int last = column; last < COLUMNS; last++) {
                    Entry wipe = slots[wipeSlot(row, first, last)];
                    if (wipe != null && wipe.stamp >= stamp) {
                        return true;
                    }
                }
            }
            return false;
        }

        void dropCovered() {
            for (int row = 0; row < ROWS; row++) {
                for (int column = 0; column < COLUMNS; column++) {
                    Entry point = pointAt(row, column);
                    if (point != null && covers(row, column, point.stamp)) {
                        dropEntry(point);
                    }
                }
            }
        }

        void dropOld(int now, int grace) {
            for (int slot = 0; slot < SLOTS; slot++) {
                Entry entry = slots[slot];
                if (entry != null && now - entry.time >= grace) {
                    dropEntry(entry);
                }
            }
        }

        void clearSlots() {
            for (int slot = 0; slot < SLOTS; slot++) {
                slots[slot] = null;
            }
            size = 0;
            wipes = 0;
        }

        private void dropEntry(Entry entry) {
            slots[entry.slot] = null;
            size--;
            wipes -= entry.kind == WIPE ? 1 : 0;
        }
    }
}
