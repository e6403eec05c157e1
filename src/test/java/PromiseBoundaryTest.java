/**
 * For each sentence of the promises that names a boundary a test of its own, named after the sentence: what lies just
 * inside the boundary, what lies just outside, and for a refused call that nothing has changed.
 */
public final class PromiseBoundaryTest {
    private static final Check check = new Check();
    private static final Twins twins = new Twins(check);
    private static final int LEAST = Integer.MIN_VALUE;
    private static final int GREATEST = Integer.MAX_VALUE;
    private static final int[] NO_ROWS = {LEAST, -16, -1, 16, 17, GREATEST};
    private static final int[] NO_COLUMNS = {LEAST, -8, -1, 8, 9, GREATEST};
    private static final int[] NO_STAMPS = {LEAST, -9999, -1, 10000, 10001, GREATEST};
    private static final int[] NO_LIVES = {LEAST, -100, -1, 101, 102, GREATEST};
    private static final int[] STAMPS = {0, 1, 9998, 9999};

    public static void main(String[] args) {
        capIs2IfThatIsLess();
        capIs20IfThatIsMore();
        graceIs0IfThatIsLess();
        graceIs50IfThatIsMore();
        emptyWithoutRuns();
        putEndsAtNowPlusLife();
        putNeverEndsIfLifeIs0();
        putIsTrueAlsoIfAnotherOneWins();
        putIsFalseIfThereIsNoSuchRowOrColumn();
        putIsFalseIfStampIsNot0To9999();
        putIsFalseIfLifeIsNot0To100();
        deleteIsFalseIfThereIsNoSuchRowOrColumn();
        deleteIsFalseIfStampIsNot0To9999();
        wipeOfTheColumnsFromFirstToLast();
        wipeIsFalseIfThereIsNoSuchRow();
        wipeIsFalseIfNotFirstToLast();
        wipeIsFalseIfStampIsNot0To9999();
        getIs0IfItIsNotSeen();
        stampIsNoneIfItIsNotSeen();
        nextIsFromOneOnBelow0From0();
        nextIsNoneIfThereIsNone();
        nextIsNoneIfThereIsNoSuchRow();
        nextRowIsFromOneOnBelow0From0();
        nextRowIsNoneIfThereIsNone();
        flushIsHowManyEntriesWereInMemory();
        flush0NothingHappens();
        mergeAlsoASingleOne();
        mergeTheMemoryStays();
        mergeOfTheGreatestOfTheirTiers();
        mergePerhaps0ItIsARunAllTheSame();
        merge0DoingNothingIfThereAreNoRuns();
        syncAllOfTheLogIsSafe();
        crashWhatIsNotSafeIsLost();
        crashAddedAgainInOrder();
        crashWithoutFlushing();
        crashIsTheLog();
        tickNowGrowsByN();
        tickNothingHappensIfNIsNot0To100();
        countOfEachWhat();
        countIsNoneForAnotherWhat();
        run0BeingTheOldest();
        runIsNoneIfThereIsNoSuchRun();
        runIsNoneIfThereIsNoSuchWhat();
        aCallThatIsRefusedChangesNothing();
        check.finish();
    }

    private static void counts(String when, WideStore x, int memory, int runs, int log, int safe) {
        check.due(when + ": count(0)", x.count(0), memory);
        check.due(when + ": count(1)", x.count(1), runs);
        check.due(when + ": count(2)", x.count(2), log);
        check.due(when + ": count(3)", x.count(3), safe);
    }

    private static void run(String when, WideStore x, int k, int entries, int tier, int wipes) {
        check.due(when + ": run(" + k + ", 0)", x.run(k, 0), entries);
        check.due(when + ": run(" + k + ", 1)", x.run(k, 1), tier);
        check.due(when + ": run(" + k + ", 2)", x.run(k, 2), wipes);
    }

    private static void flushOne(WideStore x, int row, int column) {
        x.put(row, column, 1, 1, 0);
        x.flush();
    }

    private static void capIs2IfThatIsLess() {
        check.part("CAP is cap, but 2 if that is less");
        for (int cap : new int[] {LEAST, -20, -3, -2, -1, 0, 1, 2}) {
            capIs(cap, 2);
        }
        capIs(3, 3);
    }

    private static void capIs20IfThatIsMore() {
        check.part("and 20 if that is more");
        capIs(19, 19);
        for (int cap : new int[] {20, 21, 22, 40, 1000, GREATEST}) {
            capIs(cap, 20);
        }
    }

    private static void capIs(int cap, int want) {
        WideStore x = new WideStore(cap, 5);
        for (int i = 0; i < want; i++) {
            x.put(i / 8, i % 8, 1, 1, 0);
        }
        counts("cap " + cap + ", full", x, want, 0, want, 0);
        x.put(15, 7, 1, 1, 0);
        counts("cap " + cap + ", one more", x, 0, 1, 0, 0);
        run("cap " + cap + ", one more", x, 0, want + 1, 0, 0);
    }

    private static void graceIs0IfThatIsLess() {
        check.part("GRACE is grace, but 0 if that is less");
        for (int grace : new int[] {LEAST, -50, -2, -1, 0}) {
            graceIs(grace, 0);
        }
        graceIs(1, 1);
    }

    private static void graceIs50IfThatIsMore() {
        check.part("and 50 if that is more");
        graceIs(49, 49);
        for (int grace : new int[] {50, 51, 52, 100, GREATEST}) {
            graceIs(grace, 50);
        }
    }

    private static void graceIs(int grace, int want) {
        WideStore x = new WideStore(5, grace);
        x.delete(1, 1, 1);
        x.wipe(1, 2, 3, 1);
        x.put(1, 4, 1, 1, 1);
        x.flush();
        // The deletion and the wipe are as old as want after these ticks, the cell one tick later.
        if (want > 0) {
            x.tick(want - 1);
            check.due("grace " + grace + ", a tick before: merge()", x.merge(), 3);
            x.tick(1);
        }
        check.due("grace " + grace + ": merge()", x.merge(), 1);
        x.tick(1);
        check.due("grace " + grace + ", a tick after: merge()", x.merge(), 0);
    }

    private static void emptyWithoutRuns() {
        check.part("Empty, without runs");
        for (int cap : new int[] {LEAST, 2, 20, GREATEST}) {
            WideStore x = new WideStore(cap, cap);
            counts("new", x, 0, 0, 0, 0);
            check.due("run(0, 0)", x.run(0, 0), -1);
            check.due("nextRow(0)", x.nextRow(0), -1);
            check.due("tick(0)", x.tick(0), 0);
            check.due("flush()", x.flush(), 0);
            check.due("merge()", x.merge(), 0);
            check.due("sync()", x.sync(), 0);
            check.due("crash()", x.crash(), 0);
            counts("still new", x, 0, 0, 0, 0);
        }
    }

    private static void putEndsAtNowPlusLife() {
        check.part("Adds a cell that ends at NOW + life");
        for (int life : new int[] {1, 2, 99, 100}) {
            for (int now : new int[] {0, 1, 100}) {
                WideStore x = new WideStore(5, 50);
                x.tick(now);
                check.due("put with life " + life, x.put(1, 1, 5, 7, life), true);
                x.tick(life - 1);
                check.due("get a tick before the end", x.get(1, 1), 7);
                check.due("NOW", x.tick(1), now + life);
                check.due("get at the end", x.get(1, 1), 0);
            }
        }
    }

    private static void putNeverEndsIfLifeIs0() {
        check.part("or never, if life is 0");
        WideStore x = new WideStore(5, 0);
        check.due("put with life 0", x.put(1, 1, 5, 7, 0), true);
        check.due("get at once", x.get(1, 1), 7);
        for (int i = 0; i < 250; i++) {
            x.tick(100);
            check.due("get", x.get(1, 1), 7);
        }
        x.flush();
        check.due("merge()", x.merge(), 1);
    }

    private static void putIsTrueAlsoIfAnotherOneWins() {
        check.part("true (also if another one wins; it is in the log then, too)");
        WideStore x = new WideStore(2, 50);
        check.due("put", x.put(1, 1, 5, 7, 0), true);
        check.due("put with a lesser stamp", x.put(1, 1, 4, 9, 0), true);
        check.due("put with a lesser value", x.put(1, 1, 5, 6, 0), true);
        check.due("put with an earlier end", x.put(1, 1, 5, 7, 100), true);
        check.due("the same put", x.put(1, 1, 5, 7, 0), true);
        counts("losers", x, 1, 0, 5, 0);
        check.due("get", x.get(1, 1), 7);
        x.delete(1, 2, 5);
        check.due("put under a deletion", x.put(1, 2, 5, 9, 0), true);
        counts("under a deletion", x, 2, 0, 7, 0);
        check.due("sync()", x.sync(), 7);
        check.due("crash()", x.crash(), 7);
    }

    private static void putIsFalseIfThereIsNoSuchRowOrColumn() {
        check.part("put: False if there is no such row or column");
        for (int row : new int[] {0, 15}) {
            for (int column : new int[] {0, 7}) {
                WideStore x = new WideStore(5, 50);
                check.due("put(" + row + ", " + column + ")", x.put(row, column, 5, 7, 0), true);
                counts("put", x, 1, 0, 1, 0);
                check.due("get(" + row + ", " + column + ")", x.get(row, column), 7);
            }
        }
        for (int row : NO_ROWS) {
            twins.refused("put in row " + row, x -> x.put(row, 0, 9999, 7, 0) ? 1 : 0);
            twins.refused("put in row " + row, x -> x.put(row, 7, 9999, 7, 0) ? 1 : 0);
        }
        for (int column : NO_COLUMNS) {
            twins.refused("put in column " + column, x -> x.put(0, column, 9999, 7, 0) ? 1 : 0);
            twins.refused("put in column " + column, x -> x.put(15, column, 9999, 7, 0) ? 1 : 0);
        }
    }

    private static void putIsFalseIfStampIsNot0To9999() {
        check.part("put: False if stamp is not 0 .. 9999");
        for (int stamp : STAMPS) {
            WideStore x = new WideStore(5, 50);
            check.due("put with stamp " + stamp, x.put(1, 1, stamp, 7, 0), true);
            check.due("stamp", x.stamp(1, 1), stamp);
        }
        for (int stamp : NO_STAMPS) {
            twins.refused("put with stamp " + stamp, x -> x.put(1, 1, stamp, 7, 0) ? 1 : 0);
        }
    }

    private static void putIsFalseIfLifeIsNot0To100() {
        check.part("put: False if life is not 0 .. 100");
        for (int life : new int[] {0, 1, 99, 100}) {
            WideStore x = new WideStore(5, 50);
            check.due("put with life " + life, x.put(1, 1, 5, 7, life), true);
            counts("put", x, 1, 0, 1, 0);
            check.due("get", x.get(1, 1), 7);
        }
        for (int life : NO_LIVES) {
            twins.refused("put with life " + life, x -> x.put(1, 1, 9999, 7, life) ? 1 : 0);
        }
    }

    private static void deleteIsFalseIfThereIsNoSuchRowOrColumn() {
        check.part("delete: False if there is no such row or column");
        for (int row : new int[] {0, 15}) {
            for (int column : new int[] {0, 7}) {
                WideStore x = new WideStore(5, 50);
                x.put(row, column, 5, 7, 0);
                check.due("delete(" + row + ", " + column + ")", x.delete(row, column, 5), true);
                counts("delete", x, 1, 0, 2, 0);
                check.due("get(" + row + ", " + column + ")", x.get(row, column), 0);
            }
        }
        for (int row : NO_ROWS) {
            twins.refused("delete in row " + row, x -> x.delete(row, 0, 9999) ? 1 : 0);
            twins.refused("delete in row " + row, x -> x.delete(row, 7, 9999) ? 1 : 0);
        }
        for (int column : NO_COLUMNS) {
            twins.refused("delete in column " + column, x -> x.delete(0, column, 9999) ? 1 : 0);
            twins.refused("delete in column " + column, x -> x.delete(15, column, 9999) ? 1 : 0);
        }
    }

    private static void deleteIsFalseIfStampIsNot0To9999() {
        check.part("delete: False if stamp is not 0 .. 9999");
        for (int stamp : STAMPS) {
            WideStore x = new WideStore(5, 50);
            x.put(1, 1, stamp, 7, 0);
            check.due("delete with stamp " + stamp, x.delete(1, 1, stamp), true);
            check.due("get", x.get(1, 1), 0);
            counts("delete", x, 1, 0, 2, 0);
        }
        for (int stamp : NO_STAMPS) {
            twins.refused("delete with stamp " + stamp, x -> x.delete(0, 0, stamp) ? 1 : 0);
        }
    }

    private static void wipeOfTheColumnsFromFirstToLast() {
        check.part("Adds a wipe of the columns from first to last");
        for (int first = 0; first < 8; first++) {
            for (int last = first; last < 8; last++) {
                WideStore x = new WideStore(20, 50);
                for (int column = 0; column < 8; column++) {
                    x.put(9, column, 5, 1, 0);
                }
                check.due("wipe(9, " + first + ", " + last + ", 5)", x.wipe(9, first, last, 5), true);
                for (int column = 0; column < 8; column++) {
                    boolean inside = first <= column && column <= last;
                    check.due("get(9, " + column + ")", x.get(9, column), inside ? 0 : 1);
                }
                counts("wipe", x, 9, 0, 9, 0);
            }
        }
    }

    private static void wipeIsFalseIfThereIsNoSuchRow() {
        check.part("wipe: False if there is no such row");
        for (int row : new int[] {0, 15}) {
            WideStore x = new WideStore(5, 50);
            x.put(row, 3, 5, 7, 0);
            check.due("wipe in row " + row, x.wipe(row, 3, 3, 5), true);
            check.due("get", x.get(row, 3), 0);
        }
        for (int row : NO_ROWS) {
            twins.refused("wipe in row " + row, x -> x.wipe(row, 0, 7, 9999) ? 1 : 0);
            twins.refused("wipe in row " + row, x -> x.wipe(row, 7, 7, 9999) ? 1 : 0);
        }
    }

    private static void wipeIsFalseIfNotFirstToLast() {
        check.part("wipe: False if not 0 <= first <= last <= 7");
        int[][] right = {{0, 0}, {0, 1}, {0, 7}, {3, 3}, {3, 4}, {6, 7}, {7, 7}};
        for (int[] r : right) {
            WideStore x = new WideStore(5, 50);
            check.due("wipe(1, " + r[0] + ", " + r[1] + ", 5)", x.wipe(1, r[0], r[1], 5), true);
            counts("wipe", x, 1, 0, 1, 0);
        }
        int[][] wrong = {{-1, 0}, {-1, -1}, {-1, 7}, {LEAST, 0}, {LEAST, LEAST}, {LEAST, GREATEST}, {1, 0}, {4, 3},
            {7, 6}, {7, 0}, {0, -1}, {0, LEAST}, {0, 8}, {7, 8}, {8, 8}, {8, 7}, {8, 9}, {0, GREATEST},
            {GREATEST, GREATEST}, {GREATEST, 7}, {GREATEST, LEAST}};
        for (int[] w : wrong) {
            twins.refused("wipe(1, " + w[0] + ", " + w[1] + ", 9999)", x -> x.wipe(1, w[0], w[1], 9999) ? 1 : 0);
        }
    }

    private static void wipeIsFalseIfStampIsNot0To9999() {
        check.part("wipe: False if stamp is not 0 .. 9999");
        for (int stamp : STAMPS) {
            WideStore x = new WideStore(5, 50);
            x.put(1, 1, stamp, 7, 0);
            check.due("wipe with stamp " + stamp, x.wipe(1, 0, 7, stamp), true);
            check.due("get", x.get(1, 1), 0);
        }
        for (int stamp : NO_STAMPS) {
            twins.refused("wipe with stamp " + stamp, x -> x.wipe(0, 0, 7, stamp) ? 1 : 0);
        }
    }

    /** Row 0 has nothing in column 0; a deletion, an ended cell, a covered cell; then a cell that is seen. */
    private static WideStore fourNotSeen() {
        WideStore x = new WideStore(20, 50);
        x.put(0, 1, 5, 1, 0);
        x.delete(0, 1, 5);
        x.put(0, 2, 5, 2, 1);
        x.put(0, 3, 5, 3, 0);
        x.wipe(0, 3, 3, 5);
        x.put(0, 4, 0, -4, 2);
        x.tick(1);
        return x;
    }

    private static void getIs0IfItIsNotSeen() {
        check.part("get: 0 if it is not seen");
        WideStore x = fourNotSeen();
        for (int column = 0; column < 4; column++) {
            check.due("get(0, " + column + ")", x.get(0, column), 0);
        }
        check.due("get(0, 4)", x.get(0, 4), -4);
        for (int row : NO_ROWS) {
            twins.changesNothing("get(" + row + ", 0)", y -> y.get(row, 0), 0);
            twins.changesNothing("get(" + row + ", 7)", y -> y.get(row, 7), 0);
        }
        for (int column : NO_COLUMNS) {
            twins.changesNothing("get(0, " + column + ")", y -> y.get(0, column), 0);
            twins.changesNothing("get(1, " + column + ")", y -> y.get(1, column), 0);
        }
    }

    private static void stampIsNoneIfItIsNotSeen() {
        check.part("stamp: NONE if it is not seen");
        WideStore x = fourNotSeen();
        for (int column = 0; column < 4; column++) {
            check.due("stamp(0, " + column + ")", x.stamp(0, column), -1);
        }
        check.due("stamp(0, 4)", x.stamp(0, 4), 0);
        for (int row : NO_ROWS) {
            twins.changesNothing("stamp(" + row + ", 0)", y -> y.stamp(row, 0), -1);
            twins.changesNothing("stamp(" + row + ", 7)", y -> y.stamp(row, 7), -1);
        }
        for (int column : NO_COLUMNS) {
            twins.changesNothing("stamp(0, " + column + ")", y -> y.stamp(0, column), -1);
            twins.changesNothing("stamp(1, " + column + ")", y -> y.stamp(1, column), -1);
        }
    }

    private static void nextIsFromOneOnBelow0From0() {
        check.part("The least column of a row, from one on (below 0: from 0), that is seen");
        WideStore x = fourNotSeen();
        x.put(0, 7, 5, 7, 0);
        int[] want = {4, 4, 4, 4, 4, 7, 7, 7};
        for (int column = 0; column < 8; column++) {
            check.due("next(0, " + column + ")", x.next(0, column), want[column]);
        }
        x.put(0, 0, 5, 0, 0);
        for (int column : new int[] {LEAST, -8, -1, 0}) {
            check.due("next(0, " + column + ")", x.next(0, column), 0);
        }
        check.due("next(0, 1)", x.next(0, 1), 4);
    }

    private static void nextIsNoneIfThereIsNone() {
        check.part("next: NONE if there is none");
        WideStore x = fourNotSeen();
        check.due("next(0, 4)", x.next(0, 4), 4);
        check.due("next(0, 5)", x.next(0, 5), -1);
        x.tick(1);
        check.due("next(0, 0) of what ended", x.next(0, 0), -1);
        x.put(0, 7, 5, 7, 0);
        x.put(1, 0, 5, 7, 0);
        check.due("next(0, 7)", x.next(0, 7), 7);
        for (int column : new int[] {8, 9, GREATEST - 1, GREATEST}) {
            check.due("next(0, " + column + ")", x.next(0, column), -1);
            twins.changesNothing("next(1, " + column + ")", y -> y.next(1, column), -1);
        }
    }

    private static void nextIsNoneIfThereIsNoSuchRow() {
        check.part("next: NONE if there is no such row");
        WideStore x = new WideStore(20, 50);
        x.put(0, 2, 5, 7, 0);
        x.put(15, 3, 5, 7, 0);
        check.due("next(0, 0)", x.next(0, 0), 2);
        check.due("next(15, 0)", x.next(15, 0), 3);
        for (int row : NO_ROWS) {
            for (int column : new int[] {LEAST, -1, 0, 7, 8, GREATEST}) {
                check.due("next(" + row + ", " + column + ")", x.next(row, column), -1);
            }
            twins.changesNothing("next(" + row + ", 0)", y -> y.next(row, 0), -1);
        }
    }

    private static void nextRowIsFromOneOnBelow0From0() {
        check.part("The least row, from one on (below 0: from 0), of which a column is seen");
        WideStore x = fourNotSeen();
        x.delete(0, 4, 5);
        x.delete(1, 0, 5);
        x.put(2, 7, 5, 0, 0);
        x.put(15, 0, 5, 0, 0);
        for (int row = 0; row < 16; row++) {
            check.due("nextRow(" + row + ")", x.nextRow(row), row <= 2 ? 2 : 15);
        }
        x.put(0, 7, 5, 0, 0);
        for (int row : new int[] {LEAST, -16, -1, 0}) {
            check.due("nextRow(" + row + ")", x.nextRow(row), 0);
        }
        check.due("nextRow(1)", x.nextRow(1), 2);
    }

    private static void nextRowIsNoneIfThereIsNone() {
        check.part("nextRow: NONE if there is none");
        WideStore x = fourNotSeen();
        check.due("nextRow(0)", x.nextRow(0), 0);
        check.due("nextRow(1)", x.nextRow(1), -1);
        x.tick(1);
        check.due("nextRow(-1) of what ended", x.nextRow(-1), -1);
        x.put(15, 7, 5, 0, 0);
        check.due("nextRow(15)", x.nextRow(15), 15);
        for (int row : new int[] {16, 17, GREATEST - 1, GREATEST}) {
            check.due("nextRow(" + row + ")", x.nextRow(row), -1);
            twins.changesNothing("nextRow(" + row + ")", y -> y.nextRow(row), -1);
        }
    }

    private static void flushIsHowManyEntriesWereInMemory() {
        check.part("Flushes: how many entries were in memory");
        for (int entries = 1; entries <= 20; entries++) {
            WideStore x = new WideStore(20, 50);
            for (int i = 0; i < entries; i++) {
                x.put(i / 8, i % 8, 5, 1, 0);
                x.put(i / 8, i % 8, 6, 1, 0);
            }
            check.due("flush()", x.flush(), entries);
            counts("flushed", x, 0, 1, 0, 0);
            run("flushed", x, 0, entries, 0, 0);
        }
        // The answer is of the memory also when the flush merges.
        WideStore x = new WideStore(20, 50);
        flushOne(x, 1, 1);
        flushOne(x, 1, 2);
        x.wipe(1, 0, 7, 9);
        x.put(2, 2, 1, 1, 0);
        check.due("flush() that merges", x.flush(), 2);
        run("merged", x, 0, 2, 1, 1);
    }

    private static void flush0NothingHappens() {
        check.part("flush: (0: nothing happens)");
        twins.changesNothing("flush() of a new object", x -> { }, x -> x.flush(), 0);
        twins.changesNothing("flush() after a flush", x -> flushOne(x, 1, 1), x -> x.flush(), 0);
        twins.changesNothing("flush() with two runs", PromiseBoundaryTest::twoRuns, x -> x.flush(), 0);
        twins.changesNothing("flush() after a crash", x -> {
            twoRuns(x);
            x.put(3, 3, 1, 1, 0);
            x.crash();
        }, x -> x.flush(), 0);
    }

    private static void twoRuns(WideStore x) {
        flushOne(x, 1, 1);
        flushOne(x, 1, 2);
    }

    private static void mergeAlsoASingleOne() {
        check.part("merge: also a single one");
        WideStore x = new WideStore(20, 3);
        x.put(1, 1, 5, 1, 0);
        x.wipe(1, 1, 1, 5);
        x.delete(1, 2, 5);
        x.put(1, 3, 5, 1, 0);
        x.flush();
        run("a single one", x, 0, 4, 0, 1);
        check.due("merge()", x.merge(), 3);
        run("merged", x, 0, 3, 0, 1);
        x.tick(3);
        check.due("merge() again", x.merge(), 1);
        check.due("count(1)", x.count(1), 1);
        run("merged again", x, 0, 1, 0, 0);
    }

    private static void mergeTheMemoryStays() {
        check.part("merge: the memory stays");
        WideStore x = new WideStore(3, 0);
        flushOne(x, 1, 1);
        flushOne(x, 1, 2);
        x.delete(1, 1, 5);
        x.put(1, 2, 5, 9, 1);
        x.sync();
        x.wipe(1, 0, 7, 3);
        x.tick(1);
        check.due("merge()", x.merge(), 2);
        counts("merged", x, 3, 1, 3, 2);
        run("merged", x, 0, 2, 0, 0);
        check.due("crash()", x.crash(), 2);
        check.due("get", x.get(1, 1), 0);
    }

    private static void mergeOfTheGreatestOfTheirTiers() {
        check.part("merge: into one run, of the greatest of their tiers");
        int[] greatest = {0, 0, 1, 1, 1, 1, 1, 1, 2, 2};
        for (int flushes = 1; flushes <= 10; flushes++) {
            WideStore x = new WideStore(20, 50);
            for (int i = 0; i < flushes; i++) {
                flushOne(x, i, 0);
            }
            check.due("merge() after " + flushes + " flushes", x.merge(), flushes);
            check.due("count(1)", x.count(1), 1);
            run("after " + flushes + " flushes", x, 0, flushes, greatest[flushes - 1], 0);
        }
    }

    private static void mergePerhaps0ItIsARunAllTheSame() {
        check.part("merge: (perhaps 0: it is a run all the same)");
        WideStore x = new WideStore(20, 0);
        for (int i = 0; i < 4; i++) {
            x.delete(1, i, 1);
            x.flush();
        }
        check.due("count(1)", x.count(1), 2);
        check.due("merge()", x.merge(), 0);
        check.due("count(1)", x.count(1), 1);
        run("empty", x, 0, 0, 1, 0);
        check.due("merge() again", x.merge(), 0);
        run("still empty", x, 0, 0, 1, 0);
    }

    private static void merge0DoingNothingIfThereAreNoRuns() {
        check.part("merge: 0, doing nothing, if there are no runs");
        twins.changesNothing("merge() of a new object", x -> { }, x -> x.merge(), 0);
        twins.changesNothing("merge() with a memory alone", x -> {
            x.put(1, 1, 5, 1, 0);
            x.sync();
            x.delete(1, 2, 5);
            x.wipe(1, 0, 7, 5);
            x.tick(100);
        }, x -> x.merge(), 0);
        WideStore x = new WideStore(20, 50);
        check.due("merge() without runs", x.merge(), 0);
        check.due("run(0, 0)", x.run(0, 0), -1);
        flushOne(x, 1, 1);
        check.due("merge() with one run", x.merge(), 1);
    }

    private static void syncAllOfTheLogIsSafe() {
        check.part("sync: All of the log is safe from now on: how many entries it has");
        WideStore x = new WideStore(2, 50);
        check.due("sync() of an empty log", x.sync(), 0);
        for (int i = 1; i <= 40; i++) {
            x.put(1, 1, 40 - i, 1, 0);
            counts("not safe yet", x, 1, 0, i, i - 1);
            check.due("sync()", x.sync(), i);
            counts("safe", x, 1, 0, i, i);
        }
        check.due("sync() again", x.sync(), 40);
        x.flush();
        check.due("sync() after a flush", x.sync(), 0);
    }

    private static void crashWhatIsNotSafeIsLost() {
        check.part("crash: What is not safe is lost");
        WideStore x = new WideStore(20, 50);
        check.due("crash() of a new object", x.crash(), 0);
        x.put(1, 1, 5, 1, 0);
        check.due("crash() with nothing safe", x.crash(), 0);
        counts("nothing safe", x, 0, 0, 0, 0);
        check.due("get", x.get(1, 1), 0);
        x.put(1, 1, 5, 1, 0);
        x.sync();
        x.put(1, 1, 6, 2, 0);
        x.delete(1, 1, 7);
        x.put(1, 2, 5, 3, 0);
        x.wipe(1, 1, 1, 9);
        check.due("get before", x.get(1, 1), 0);
        check.due("crash() with one safe", x.crash(), 1);
        counts("one safe", x, 1, 0, 1, 1);
        check.due("get of what is safe", x.get(1, 1), 1);
        check.due("get of what is lost", x.get(1, 2), 0);
        x.flush();
        x.put(1, 1, 6, 2, 0);
        check.due("crash() after a flush", x.crash(), 0);
        counts("after a flush", x, 0, 1, 0, 0);
        check.due("get from the run", x.get(1, 1), 1);
    }

    private static void crashAddedAgainInOrder() {
        check.part("crash: what is safe in the log is added again, in order");
        WideStore x = new WideStore(20, 9);
        x.put(1, 1, 5, 7, 8);
        x.put(1, 1, 4, 8, 0);
        x.delete(1, 2, 5);
        x.wipe(1, 3, 4, 5);
        x.sync();
        x.tick(7);
        check.due("crash()", x.crash(), 4);
        counts("crashed", x, 3, 0, 4, 4);
        check.due("get a tick before the end", x.get(1, 1), 7);
        x.tick(1);
        check.due("get at the end", x.get(1, 1), 0);
        x.flush();
        run("flushed", x, 0, 3, 0, 1);
        check.due("merge() a tick before", x.merge(), 3);
        x.tick(1);
        // Made, and ended, when they were before the crash.
        check.due("merge()", x.merge(), 1);
        x.tick(8);
        check.due("merge() when the cell is old", x.merge(), 0);
    }

    private static void crashWithoutFlushing() {
        check.part("crash: (without flushing)");
        for (int cap = 2; cap <= 20; cap++) {
            WideStore x = new WideStore(cap, 50);
            for (int i = 0; i < cap; i++) {
                x.put(i / 8, i % 8, 5, 1, 0);
            }
            x.sync();
            x.put(0, 0, 6, 1, 0);
            check.due("crash() with a full memory", x.crash(), cap);
            counts("cap " + cap, x, cap, 0, cap, cap);
            x.put(15, 7, 5, 1, 0);
            counts("cap " + cap + ", one more", x, 0, 1, 0, 0);
        }
    }

    private static void crashIsTheLog() {
        check.part("crash: and is the log. How many entries that are");
        WideStore x = new WideStore(20, 50);
        x.put(1, 1, 5, 1, 0);
        x.put(1, 1, 6, 2, 0);
        x.sync();
        x.put(1, 1, 7, 3, 0);
        check.due("crash()", x.crash(), 2);
        check.due("crash() again", x.crash(), 2);
        counts("crashed twice", x, 1, 0, 2, 2);
        x.put(1, 1, 8, 4, 0);
        counts("one more", x, 1, 0, 3, 2);
        check.due("crash() with one more", x.crash(), 2);
        check.due("get", x.get(1, 1), 2);
        x.put(1, 1, 9, 5, 0);
        check.due("sync()", x.sync(), 3);
        check.due("crash() after sync()", x.crash(), 3);
        check.due("get", x.get(1, 1), 5);
    }

    private static void tickNowGrowsByN() {
        check.part("NOW grows by n: NOW");
        WideStore x = new WideStore(5, 50);
        check.due("tick(0)", x.tick(0), 0);
        check.due("tick(1)", x.tick(1), 1);
        check.due("tick(99)", x.tick(99), 100);
        check.due("tick(100)", x.tick(100), 200);
        check.due("tick(0)", x.tick(0), 200);
    }

    private static void tickNothingHappensIfNIsNot0To100() {
        check.part("tick: Nothing happens if n is not 0 .. 100 (NOW is answered all the same)");
        for (int n : new int[] {LEAST, -100, -2, -1, 101, 102, 1000, GREATEST}) {
            twins.changesNothing("tick(" + n + ") at 0", x -> { }, x -> x.tick(n), 0);
            twins.changesNothing("tick(" + n + ") at 100", x -> {
                x.tick(90);
                x.put(1, 1, 5, 1, 12);
                x.delete(1, 2, 5);
                x.tick(10);
            }, x -> x.tick(n), 100);
        }
    }

    private static void countOfEachWhat() {
        check.part("What 0: entries in memory; 1: runs; 2: entries of the log; 3: how many of these are safe");
        WideStore x = new WideStore(20, 50);
        counts("new", x, 0, 0, 0, 0);
        flushOne(x, 1, 1);
        for (int i = 0; i < 2; i++) {
            x.put(1, 1, 5, 1, 0);
        }
        x.delete(1, 2, 5);
        x.sync();
        x.wipe(1, 1, 2, 5);
        counts("all of them different", x, 3, 1, 4, 3);
        for (int i = 2; i <= 3; i++) {
            x.wipe(1, i, i, 5);
            x.wipe(1, i, i, 5);
        }
        counts("and again", x, 5, 1, 8, 3);
    }

    private static void countIsNoneForAnotherWhat() {
        check.part("count: NONE for another what");
        for (int what : new int[] {LEAST, -2, -1, 4, 5, GREATEST}) {
            twins.changesNothing("count(" + what + ")", x -> x.count(what), -1);
        }
    }

    private static void run0BeingTheOldest() {
        check.part("Of run k, 0 being the oldest: entries (what 0), its tier (1), wipes (2)");
        WideStore x = new WideStore(20, 50);
        for (int i = 0; i < 3; i++) {
            flushOne(x, 0, i);
        }
        x.wipe(1, 0, 0, 1);
        x.wipe(1, 0, 1, 1);
        x.delete(1, 1, 1);
        x.flush();
        for (int i = 0; i < 3; i++) {
            x.wipe(2, i, 7, 1);
        }
        x.put(2, 0, 1, 1, 0);
        x.put(2, 1, 2, 1, 0);
        x.flush();
        run("the oldest", x, 0, 3, 1, 0);
        run("the next", x, 1, 3, 0, 2);
        run("the newest", x, 2, 5, 0, 3);
    }

    private static void runIsNoneIfThereIsNoSuchRun() {
        check.part("run: NONE if there is no such run");
        WideStore x = new WideStore(20, 50);
        for (int runs = 0; runs <= 2; runs++) {
            for (int what = 0; what < 3; what++) {
                for (int k : new int[] {LEAST, -2, -1, runs, runs + 1, GREATEST}) {
                    check.due(runs + " runs: run(" + k + ", " + what + ")", x.run(k, what), -1);
                }
                for (int k = 0; k < runs; k++) {
                    check.due(runs + " runs: run(" + k + ", " + what + ")", x.run(k, what), what == 0 ? 1 : 0);
                }
            }
            flushOne(x, 0, runs);
        }
        for (int k : new int[] {LEAST, -1, 3, GREATEST}) {
            twins.changesNothing("run(" + k + ", 0)", y -> y.run(k, 0), -1);
        }
    }

    private static void runIsNoneIfThereIsNoSuchWhat() {
        check.part("run: NONE if there is no such what");
        WideStore x = new WideStore(20, 50);
        for (int runs = 0; runs <= 2; runs++) {
            for (int k = 0; k <= runs; k++) {
                for (int what : new int[] {LEAST, -2, -1, 3, 4, GREATEST}) {
                    check.due(runs + " runs: run(" + k + ", " + what + ")", x.run(k, what), -1);
                }
            }
            flushOne(x, 0, runs);
        }
        for (int what : new int[] {LEAST, -1, 3, GREATEST}) {
            twins.changesNothing("run(0, " + what + ")", y -> y.run(0, what), -1);
        }
    }

    private static void aCallThatIsRefusedChangesNothing() {
        check.part("A call that is refused changes nothing");
        // Each with more than one thing wrong, and many after one another.
        twins.refused("all wrong: put", x -> x.put(-1, 8, -1, 1, -1) ? 1 : 0);
        twins.refused("all wrong: put", x -> x.put(16, -1, 10000, 1, 101) ? 1 : 0);
        twins.refused("all wrong: delete", x -> x.delete(16, -8, 10000) ? 1 : 0);
        twins.refused("all wrong: wipe", x -> x.wipe(-1, 8, -1, 10000) ? 1 : 0);
        twins.refused("many", x -> {
            int taken = 0;
            for (int i = 0; i < 20; i++) {
                taken += x.put(16 + i, 0, 9999, 1, 0) ? 1 : 0;
                taken += x.delete(0, 8 + i, 9999) ? 1 : 0;
                taken += x.wipe(0, i + 1, i, 9999) ? 1 : 0;
            }
            return taken;
        });
    }
}
