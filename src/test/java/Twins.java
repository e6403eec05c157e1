import java.util.function.Consumer;
import java.util.function.ToIntFunction;

/**
 * Two stores with the same past: one call is made on one of them alone, then both must answer alike whatever is
 * called. A change that no answer shows at once (in the log, in the tick of a deletion) shows after a crash or a merge.
 */
final class Twins {
    private static final int EMPTY = 0;
    private static final int LIVED = 1;
    private static final int FULL = 2;
    private static final int PASTS = 3;
    private static final int FUTURES = 2;

    private final Check check;

    Twins(Check check) {
        this.check = check;
    }

    /** The call has that answer, and changes nothing: on a new store, on one with all kinds of state, on a full one. */
    void changesNothing(String call, ToIntFunction<WideStore> ask, int want) {
        for (int past = 0; past < PASTS; past++) {
            for (int future = 0; future < FUTURES; future++) {
                WideStore asked = storeWithPast(past);
                WideStore plain = storeWithPast(past);
                check.due(call, ask.applyAsInt(asked), want);
                sameFuture(call, asked, plain, future);
            }
        }
    }

    void refused(String call, ToIntFunction<WideStore> ask) {
        changesNothing(call, ask, 0);
    }

    /** After the same calls of before, the call has that answer and changes nothing. */
    void changesNothing(String call, Consumer<WideStore> before, ToIntFunction<WideStore> ask, int want) {
        for (int future = 0; future < FUTURES; future++) {
            WideStore asked = new WideStore(6, 30);
            WideStore plain = new WideStore(6, 30);
            before.accept(asked);
            before.accept(plain);
            check.due(call, ask.applyAsInt(asked), want);
            sameFuture(call, asked, plain, future);
        }
    }

    private static WideStore storeWithPast(int past) {
        WideStore x = new WideStore(past == FULL ? 2 : 6, 30);
        if (past == EMPTY) {
            return x;
        }
        x.tick(7);
        if (past == LIVED) {
            fillRuns(x);
        }
        fillMemory(x);
        if (past == LIVED) {
            fillUnsafeMemory(x);
        }
        return x;
    }

    /** Runs of the tiers 1, 0 and 0, so that one flush more merges three of them. */
    private static void fillRuns(WideStore x) {
        for (int i = 0; i < 5; i++) {
            x.put(i, i, 50, 100 + i, 0);
            x.put(15, i, 40 + i, 7, 20 + i);
            x.delete(0, 7 - i, 10 + i);
            x.wipe(14, i, 7, 60 - i);
            x.flush();
            x.tick(1);
        }
    }

    private static void fillMemory(WideStore x) {
        x.put(0, 0, 20, 5, 9);
        x.put(0, 0, 19, 6, 0);
        x.delete(1, 1, 30);
        x.sync();
        x.tick(2);
    }

    private static void fillUnsafeMemory(WideStore x) {
        x.put(0, 0, 21, 6, 0);
        x.wipe(2, 1, 3, 8);
        x.put(15, 7, 9999, 8, 0);
        x.tick(1);
    }

    private void sameFuture(String call, WideStore asked, WideStore plain, int future) {
        sameState(call, asked, plain);
        same(call + ", then sync() or crash()", future == 0 ? asked.crash() : asked.sync(),
            future == 0 ? plain.crash() : plain.sync());
        sameState(call + ", after that", asked, plain);
        sameGrid(call, asked, plain);
        same(call + ", then put", asked.put(3, 6, 1, 4, 0) ? 1 : 0, plain.put(3, 6, 1, 4, 0) ? 1 : 0);
        same(call + ", then flush()", asked.flush(), plain.flush());
        sameState(call + ", flushed", asked, plain);
        for (int i = 0; i < 36; i++) {
            same(call + ", then tick(1)", asked.tick(1), plain.tick(1));
            same(call + ", then merge()", asked.merge(), plain.merge());
        }
        sameState(call + ", merged", asked, plain);
        sameRows(call + ", merged", asked, plain);
    }

    private void same(String call, int asked, int plain) {
        check.due(call, asked, plain);
    }

    private void sameState(String call, WideStore asked, WideStore plain) {
        same(call + ": tick(0)", asked.tick(0), plain.tick(0));
        for (int what = 0; what < 4; what++) {
            same(call + ": count(" + what + ")", asked.count(what), plain.count(what));
        }
        for (int k = 0; k < 5; k++) {
            for (int what = 0; what < 3; what++) {
                same(call + ": run(" + k + ", " + what + ")", asked.run(k, what), plain.run(k, what));
            }
        }
    }

    private void sameGrid(String call, WideStore asked, WideStore plain) {
        for (int place = 0; place < 128; place++) {
            int row = place / 8;
            int column = place % 8;
            same(call + ": get(" + row + ", " + column + ")", asked.get(row, column), plain.get(row, column));
        }
        sameRows(call, asked, plain);
    }

    private void sameRows(String call, WideStore asked, WideStore plain) {
        for (int row = 0; row < 16; row++) {
            same(call + ": nextRow(" + row + ")", asked.nextRow(row), plain.nextRow(row));
            int column = plain.next(row, 0);
            same(call + ": next(" + row + ", 0)", asked.next(row, 0), column);
            same(call + ": stamp(" + row + ", " + column + ")", asked.stamp(row, column), plain.stamp(row, column));
        }
    }
}
