import java.util.ArrayList;
import java.util.Comparator;
import java.util.List;

/** The document's terms written down once more, with lists that are searched, for ModelTest to compare with. */
final class PlainModel {
    private static final Comparator<Item> BY_WINNING = Comparator.<Item>comparingInt(i -> i.stamp)
        .thenComparing(i -> i.kind == 'd')
        .thenComparingInt(i -> i.kind == 'c' ? i.value : 0)
        .thenComparingLong(i -> i.when);

    private final int cap;
    private final int grace;
    private int now = 0;
    private int safe = 0;
    private List<Item> memory = new ArrayList<>();
    private List<Item> log = new ArrayList<>();
    private final List<Sorted> runs = new ArrayList<>();

    // kind: c a cell, d a deletion, w a wipe; when: a cell's end, else the tick when it was made.
    record Item(char kind, int row, int first, int last, int stamp, int value, long when) {
        boolean likeThat(Item other) {
            return (kind == 'w') == (other.kind == 'w') && row == other.row && first == other.first && last == other.last;
        }

        boolean covers(Item point) {
            return kind == 'w' && point.kind != 'w' && row == point.row && first <= point.first && point.first <= last
                && point.stamp <= stamp;
        }
    }

    record Sorted(int tier, List<Item> items) { }

    PlainModel(int cap, int grace) {
        this.cap = cap < 2 ? 2 : cap > 20 ? 20 : cap;
        this.grace = grace < 0 ? 0 : grace > 50 ? 50 : grace;
    }

    boolean put(int row, int column, int stamp, int value, int life) {
        if (outside(row, 15) || outside(column, 7) || outside(stamp, 9999) || outside(life, 100)) {
            return false;
        }
        return added(new Item('c', row, column, column, stamp, value, life == 0 ? Long.MAX_VALUE : now + life));
    }

    boolean delete(int row, int column, int stamp) {
        if (outside(row, 15) || outside(column, 7) || outside(stamp, 9999)) {
            return false;
        }
        return added(new Item('d', row, column, column, stamp, 0, now));
    }

    boolean wipe(int row, int first, int last, int stamp) {
        if (outside(row, 15) || outside(first, 7) || outside(last, 7) || last < first || outside(stamp, 9999)) {
            return false;
        }
        return added(new Item('w', row, first, last, stamp, 0, now));
    }

    int get(int row, int column) {
        Item cell = seen(row, column);
        return cell == null ? 0 : cell.value;
    }

    int stamp(int row, int column) {
        Item cell = seen(row, column);
        return cell == null ? -1 : cell.stamp;
    }

    int next(int row, int column) {
        for (int c = 0; c < 8; c++) {
            if (c >= column && seen(row, c) != null) {
                return c;
            }
        }
        return -1;
    }

    int nextRow(int row) {
        for (int r = 0; r < 16; r++) {
            if (r >= row && next(r, 0) >= 0) {
                return r;
            }
        }
        return -1;
    }

    int flush() {
        int entries = memory.size();
        if (entries == 0) {
            return 0;
        }
        runs.add(new Sorted(0, memory));
        memory = new ArrayList<>();
        log = new ArrayList<>();
        safe = 0;
        while (runs.size() >= 3 && tierFromEnd(1) == tierFromEnd(2) && tierFromEnd(2) == tierFromEnd(3)) {
            mergeLast(3, tierFromEnd(1) + 1);
        }
        return entries;
    }

    int merge() {
        if (runs.isEmpty()) {
            return 0;
        }
        mergeLast(runs.size(), runs.stream().mapToInt(Sorted::tier).max().getAsInt());
        return runs.get(0).items.size();
    }

    int sync() {
        safe = log.size();
        return safe;
    }

    int crash() {
        log = new ArrayList<>(log.subList(0, safe));
        memory = new ArrayList<>();
        for (Item item : log) {
            keepWinner(memory, item);
        }
        return safe;
    }

    int tick(int n) {
        now += outside(n, 100) ? 0 : n;
        return now;
    }

    int count(int what) {
        int[] answers = {memory.size(), runs.size(), log.size(), safe};
        return outside(what, 3) ? -1 : answers[what];
    }

    int run(int k, int what) {
        if (outside(k, runs.size() - 1) || outside(what, 2)) {
            return -1;
        }
        Sorted run = runs.get(k);
        int wipes = (int) run.items.stream().filter(i -> i.kind == 'w').count();
        return what == 0 ? run.items.size() : what == 1 ? run.tier : wipes;
    }

    private static boolean outside(int x, int most) {
        return x < 0 || x > most;
    }

    private int tierFromEnd(int back) {
        return runs.get(runs.size() - back).tier;
    }

    private boolean added(Item item) {
        log.add(item);
        keepWinner(memory, item);
        if (memory.size() > cap) {
            flush();
        }
        return true;
    }

    private static void keepWinner(List<Item> items, Item item) {
        for (Item other : items) {
            if (other.likeThat(item)) {
                if (BY_WINNING.compare(item, other) > 0) {
                    items.remove(other);
                    items.add(item);
                }
                return;
            }
        }
        items.add(item);
    }

    private void mergeLast(int n, int tier) {
        boolean all = n == runs.size();
        List<Item> winners = new ArrayList<>();
        List<Sorted> last = runs.subList(runs.size() - n, runs.size());
        for (Sorted run : last) {
            for (Item item : run.items) {
                keepWinner(winners, item);
            }
        }
        last.clear();
        List<Item> left = new ArrayList<>();
        for (Item item : winners) {
            boolean covered = winners.stream().anyMatch(w -> w.covers(item));
            boolean old = all && item.when <= now - grace;
            if (!covered && !old) {
                left.add(item);
            }
        }
        runs.add(new Sorted(tier, left));
    }

    private Item seen(int row, int column) {
        List<Item> everything = new ArrayList<>(memory);
        runs.forEach(run -> everything.addAll(run.items));
        Item best = everything.stream()
            .filter(i -> i.kind != 'w' && i.row == row && i.first == column)
            .max(BY_WINNING).orElse(null);
        if (best == null || best.kind == 'd' || best.when <= now) {
            return null;
        }
        return everything.stream().anyMatch(w -> w.covers(best)) ? null : best;
    }
}
