/**
 * The document's opening lines, and those sentences of its terms that say what there is, without a boundary: a test
 * named after each. TermsBoundaryTest and PromiseBoundaryTest have the others.
 */
public final class OpeningTest {
    private static final Check check = new Check();

    public static void main(String[] args) {
        aStoreOfCellsByRowsAndColumns();
        stampsThatTheirCallersGive();
        goIntoALogAndATableInMemory();
        fromThereIntoRuns();
        runsThatNeverChange();
        runsAreMergedByTiers();
        entriesAre();
        aCellHas();
        aDeletionHas();
        aWipeHas();
        aCellOrDeletionIsAPoint();
        theNewestOne();
        objectsShareNothing();
        check.finish();
    }

    private static void counts(String when, WideStore x, int memory, int runs, int log, int safe) {
        check.due(when + ": count(0)", x.count(0), memory);
        check.due(when + ": count(1)", x.count(1), runs);
        check.due(when + ": count(2)", x.count(2), log);
        check.due(when + ": count(3)", x.count(3), safe);
    }

    private static void run(String when, WideStore x, int k, int entries, int tier, int wipes) {
        check.due(when + ": run(" + k + ", 0)", x.run(k, 0), entries);
        check.due(when + ": run(" + k + ", 1)", x.run(k, 1), tier);
        check.due(when + ": run(" + k + ", 2)", x.run(k, 2), wipes);
    }

    private static void aStoreOfCellsByRowsAndColumns() {
        check.part("A store of cells by rows and columns");
        WideStore x = new WideStore(20, 50);
        for (int place = 0; place < 128; place++) {
            check.due("put", x.put(place / 8, place % 8, 1, 1000 + place, 0), true);
        }
        for (int place = 0; place < 128; place++) {
            check.due("get(" + place / 8 + ", " + place % 8 + ")", x.get(place / 8, place % 8), 1000 + place);
        }
    }

    private static void stampsThatTheirCallersGive() {
        check.part("writes and deletions have stamps that their callers give");
        WideStore x = new WideStore(20, 50);
        // Neither the order of the calls nor the time makes a stamp.
        x.put(1, 1, 7000, 1, 0);
        x.tick(100);
        x.put(1, 1, 6999, 2, 0);
        x.delete(1, 1, 6999);
        x.wipe(1, 1, 1, 6999);
        check.due("get", x.get(1, 1), 1);
        check.due("stamp", x.stamp(1, 1), 7000);
        x.flush();
        x.merge();
        check.due("stamp, merged", x.stamp(1, 1), 7000);
    }

    private static void goIntoALogAndATableInMemory() {
        check.part("go into a log and a table in memory");
        WideStore x = new WideStore(20, 50);
        x.put(1, 1, 1, 1, 0);
        counts("a write", x, 1, 0, 1, 0);
        x.delete(1, 2, 1);
        counts("a deletion", x, 2, 0, 2, 0);
        x.wipe(1, 1, 2, 0);
        counts("a wipe", x, 3, 0, 3, 0);
    }

    private static void fromThereIntoRuns() {
        check.part("from there into sorted runs");
        WideStore x = new WideStore(20, 50);
        x.put(1, 1, 5, 1, 0);
        x.put(1, 1, 4, 2, 0);
        x.delete(1, 2, 1);
        x.wipe(1, 1, 2, 0);
        check.due("flush()", x.flush(), 3);
        counts("flushed", x, 0, 1, 0, 0);
        run("flushed", x, 0, 3, 0, 1);
    }

    private static void runsThatNeverChange() {
        check.part("runs that never change");
        WideStore x = new WideStore(20, 0);
        x.put(1, 1, 5, 1, 1);
        x.delete(1, 2, 5);
        x.wipe(2, 1, 2, 5);
        x.flush();
        unchanged("flushed", x);
        x.put(1, 1, 6, 2, 0);
        unchanged("a winner in memory", x);
        x.put(1, 3, 6, 2, 0);
        x.delete(1, 2, 6);
        x.wipe(2, 1, 2, 6);
        x.wipe(1, 0, 7, 9999);
        unchanged("more in memory", x);
        x.tick(100);
        unchanged("all old", x);
        x.sync();
        unchanged("synced", x);
        x.crash();
        unchanged("crashed", x);
        x.flush();
        unchanged("a newer run", x);
        x.put(1, 1, 7, 3, 0);
        x.crash();
        unchanged("crashed without a log", x);
    }

    private static void unchanged(String when, WideStore x) {
        run(when, x, 0, 3, 0, 1);
    }

    private static void runsAreMergedByTiers() {
        check.part("runs are merged by tiers");
        WideStore x = new WideStore(20, 50);
        for (int i = 0; i < 9; i++) {
            x.put(i, 0, 1, 1, 0);
            x.flush();
            int ofTier0 = (i + 1) % 3;
            int ofTier1 = (i + 1) / 3 % 3;
            check.due((i + 1) + " flushes: count(1)", x.count(1), (i + 1) / 9 + ofTier1 + ofTier0);
        }
        run("nine flushes", x, 0, 9, 2, 0);
    }

    private static void entriesAre() {
        check.part("ENTRIES are: a CELL, a DELETION and a WIPE");
        WideStore x = new WideStore(2, 50);
        x.put(1, 1, 1, 1, 0);
        x.delete(1, 2, 1);
        counts("two entries", x, 2, 0, 2, 0);
        x.wipe(1, 1, 2, 0);
        counts("three entries, more than CAP", x, 0, 1, 0, 0);
        run("three entries", x, 0, 3, 0, 1);
    }

    private static void aCellHas() {
        check.part("a CELL (row, column, stamp, value, and the tick when it ENDS, or none)");
        WideStore x = new WideStore(20, 50);
        x.tick(3);
        x.put(2, 5, 77, 88, 4);
        x.put(3, 5, 77, 88, 0);
        check.due("nextRow(0)", x.nextRow(0), 2);
        check.due("next(2, 0)", x.next(2, 0), 5);
        check.due("stamp(2, 5)", x.stamp(2, 5), 77);
        check.due("get(2, 5)", x.get(2, 5), 88);
        x.tick(3);
        check.due("get(2, 5) at tick 6", x.get(2, 5), 88);
        x.tick(1);
        check.due("get(2, 5) at tick 7", x.get(2, 5), 0);
        check.due("get(3, 5), which does not end", x.get(3, 5), 88);
    }

    private static void aDeletionHas() {
        check.part("a DELETION (row, column, stamp, the tick when it was made)");
        WideStore x = new WideStore(20, 5);
        x.tick(3);
        for (int row = 1; row <= 3; row++) {
            for (int column = 4; column <= 6; column++) {
                x.put(row, column, 7, 1, 0);
            }
        }
        x.put(2, 5, 8, 2, 0);
        x.delete(2, 5, 7);
        check.due("get of a greater stamp", x.get(2, 5), 2);
        x.delete(2, 5, 8);
        for (int place = 0; place < 9; place++) {
            int row = 1 + place / 3;
            int column = 4 + place % 3;
            check.due("get(" + row + ", " + column + ")", x.get(row, column), row == 2 && column == 5 ? 0 : 1);
        }
        x.flush();
        x.tick(4);
        check.due("merge() at tick 7", x.merge(), 9);
        x.tick(1);
        check.due("merge() at tick 8", x.merge(), 8);
    }

    private static void aWipeHas() {
        check.part("a WIPE (row, a first and a last column, stamp, the tick when it was made)");
        WideStore x = new WideStore(20, 5);
        x.tick(3);
        for (int column = 1; column <= 6; column++) {
            x.put(2, column, column == 3 ? 9 : 8, 1, 0);
            x.put(3, column, 8, 1, 0);
        }
        x.wipe(2, 2, 5, 8);
        for (int column = 1; column <= 6; column++) {
            boolean covered = column == 2 || column == 4 || column == 5;
            check.due("get(2, " + column + ")", x.get(2, column), covered ? 0 : 1);
            check.due("get(3, " + column + ")", x.get(3, column), 1);
        }
        x.flush();
        x.tick(4);
        check.due("merge() at tick 7", x.merge(), 10);
        check.due("run(0, 2) at tick 7", x.run(0, 2), 1);
        x.tick(1);
        check.due("merge() at tick 8", x.merge(), 9);
        check.due("run(0, 2) at tick 8", x.run(0, 2), 0);
    }

    private static void aCellOrDeletionIsAPoint() {
        check.part("A cell or deletion is a POINT");
        WideStore x = new WideStore(20, 50);
        x.put(1, 1, 5, 1, 0);
        x.delete(1, 1, 6);
        check.due("a cell and a deletion, one point: count(0)", x.count(0), 1);
        // A wipe is none, even of one column: it does not take the place of a point, nor cover another wipe.
        x.wipe(1, 1, 1, 9);
        check.due("a wipe beside it: count(0)", x.count(0), 2);
        x.wipe(1, 0, 7, 9);
        check.due("a wider wipe: count(0)", x.count(0), 3);
        x.flush();
        check.due("merge() leaves the wipes", x.merge(), 2);
        run("merged", x, 0, 2, 0, 2);
    }

    private static void theNewestOne() {
        check.part("they become a new RUN, the newest one");
        WideStore x = new WideStore(20, 50);
        x.put(1, 1, 1, 1, 0);
        x.flush();
        x.put(1, 1, 1, 1, 0);
        x.put(1, 2, 1, 1, 0);
        x.flush();
        run("the oldest", x, 0, 1, 0, 0);
        run("the newest", x, 1, 2, 0, 0);
    }

    private static void objectsShareNothing() {
        check.part("A new object: empty, whatever others have");
        WideStore other = new WideStore(2, 0);
        for (int i = 0; i < 8; i++) {
            other.put(i, i, i, i, 0);
            other.tick(100);
        }
        other.sync();
        WideStore x = new WideStore(20, 50);
        counts("new", x, 0, 0, 0, 0);
        check.due("tick(0)", x.tick(0), 0);
        check.due("nextRow(0)", x.nextRow(0), -1);
        x.wipe(7, 0, 7, 9999);
        x.flush();
        check.due("get of the other", other.get(7, 7), 7);
        check.due("count(1) of the other", other.count(1), 2);
    }
}
