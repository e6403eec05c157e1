/**
 * For each sentence of the document's terms that names a boundary a test of its own, named after the sentence:
 * what lies just inside the boundary, and what lies just outside.
 */
public final class TermsBoundaryTest {
    private static final Check check = new Check();
    private static final Twins twins = new Twins(check);
    private static final int LEAST = Integer.MIN_VALUE;
    private static final int GREATEST = Integer.MAX_VALUE;

    // How two entries come to meet: in memory, in a run and in memory, in two runs, in one merged run.
    private static final int WAYS = 4;

    public static void main(String[] args) {
        whatIsReadIsTheSameWhateverWasFlushedOrMerged();
        untilOldDeletionsAreDropped();
        anObjectIsUsedForAtMost512Calls();
        rowsAre0To15();
        columnsAre0To7();
        nowCountsTicks();
        thePointWithTheGreaterStampWins();
        withTheSameStampADeletionWinsOverACell();
        ofTwoSuchCellsThatWithTheGreaterValue();
        thenThatWhichEndsLater();
        noneIsLatest();
        ofTwoSuchDeletionsThatMadeLater();
        ofTwoWipesThatWinsThatHasTheGreaterStamp();
        thenTheWipeMadeLater();
        ofTheSameRowAndColumns();
        aWipeCoversThePointsOfItsRowAndColumns();
        whoseStampIsNotGreaterThanItsOwn();
        atMostOnePointForARowAndColumn();
        atMostOneWipeForARowAndTheSameTwoColumns();
        theOneThatWinsStays();
        coveredPointsStay();
        theLogHasAllThatWasAddedSinceTheLastFlush();
        inOrderOfWhichTheFirstSoManyAreSafe();
        ifTheMemoryHasEntriesTheyBecomeANewRun();
        theMemoryIsEmptyTheLogTooNothingIsSafe();
        asLongAsTheThreeNewestRunsAreOfOneTier();
        oneRunOfTheNextTierTakesTheirPlace();
        moreThanCapEntries();
        ofAllTheirPointsTheOneThatWins();
        ofAllTheirWipesTheOneThatWins();
        pointsThatAWipeAmongTheseCoversAreLeftOut();
        ifTheseWereAllRunsThereAre();
        deletionsAndWipesMadeGraceTicksAgoOrMore();
        cellsThatEndedGraceTicksAgoOrMore();
        afterThat();
        aRunCanBeEmpty();
        thePointThatWinsAmongThoseInMemoryAndInAllRuns();
        noneIfThereAreNone();
        itIsSeenIfThatIsACell();
        whichDoesNotEndOrEndsAfterNow();
        andNoWipeInMemoryOrInARunCoversIt();
        theConstants();
        check.finish();
    }

    private static void between(WideStore x, int way) {
        if (way > 0) {
            x.flush();
        }
    }

    private static void after(WideStore x, int way) {
        if (way > 1) {
            x.flush();
        }
        if (way > 2) {
            x.merge();
        }
    }

    private static void counts(String when, WideStore x, int memory, int runs, int log, int safe) {
        check.due(when + ": count(0)", x.count(0), memory);
        check.due(when + ": count(1)", x.count(1), runs);
        check.due(when + ": count(2)", x.count(2), log);
        check.due(when + ": count(3)", x.count(3), safe);
    }

    private static void run(String when, WideStore x, int k, int entries, int tier, int wipes) {
        check.due(when + ": run(" + k + ", 0)", x.run(k, 0), entries);
        check.due(when + ": run(" + k + ", 1)", x.run(k, 1), tier);
        check.due(when + ": run(" + k + ", 2)", x.run(k, 2), wipes);
    }

    private static void flushOne(WideStore x, int row, int column) {
        x.put(row, column, 1, 1, 0);
        x.flush();
    }

    private static void whatIsReadIsTheSameWhateverWasFlushedOrMerged() {
        check.part("what is read is the same whatever was flushed or merged");
        for (int cap = 2; cap <= 20; cap++) {
            for (int step = 1; step <= 9; step++) {
                WideStore whole = new WideStore(20, 50);
                WideStore cut = new WideStore(cap, 50);
                for (int i = 0; i < 20; i++) {
                    addOne(whole, i);
                    addOne(cut, i);
                    if (i % step == 0) {
                        cut.flush();
                    }
                    if (i % (step + 3) == 0) {
                        cut.merge();
                    }
                }
                check.due("the one has no run", whole.count(1), 0);
                sameIsRead(cut, whole);
            }
        }
    }

    private static void addOne(WideStore x, int i) {
        int row = i % 2 * 15;
        int column = i * 5 % 8;
        int stamp = i * 7 % 6;
        if (i % 5 == 4) {
            x.wipe(row, column / 2, column, stamp);
        } else if (i % 5 == 2) {
            x.delete(row, column, stamp);
        } else {
            x.put(row, column, stamp, i + 1, i % 3 * 20);
        }
        x.tick(2);
    }

    private static void sameIsRead(WideStore cut, WideStore whole) {
        for (int place = 0; place < 128; place++) {
            int row = place / 8;
            int column = place % 8;
            check.due("get(" + row + ", " + column + ")", cut.get(row, column), whole.get(row, column));
            check.due("stamp(" + row + ", " + column + ")", cut.stamp(row, column), whole.stamp(row, column));
        }
    }

    private static void untilOldDeletionsAreDropped() {
        check.part("until old deletions are dropped");
        for (int kind = 0; kind < 2; kind++) {
            WideStore x = new WideStore(20, 4);
            if (kind == 0) {
                x.delete(3, 3, 8);
            } else {
                x.wipe(3, 3, 3, 8);
            }
            x.flush();
            x.put(3, 3, 7, 70, 0);
            x.tick(3);
            x.merge();
            check.due("get, a tick before", x.get(3, 3), 0);
            x.tick(1);
            check.due("get, old but not dropped", x.get(3, 3), 0);
            x.merge();
            check.due("get, dropped", x.get(3, 3), 70);
        }
    }

    private static void anObjectIsUsedForAtMost512Calls() {
        check.part("an object is used for at most 512 calls");
        WideStore x = new WideStore(2, 50);
        for (int i = 1; i <= 510; i++) {
            check.due("put number " + i, x.put(15, 7, i, -i, 0), true);
        }
        check.due("call 511: sync()", x.sync(), 510);
        check.due("call 512: crash()", x.crash(), 510);

        x = new WideStore(2, 50);
        for (int i = 1; i <= 512; i++) {
            check.due("call " + i + ": put", x.put(15, 7, i, -i, 0), true);
        }

        x = new WideStore(2, 50);
        for (int i = 1; i <= 511; i++) {
            x.tick(100);
        }
        check.due("call 512: tick(100)", x.tick(100), 51200);
    }

    private static void rowsAre0To15() {
        check.part("ROWS are 0 .. 15");
        for (int row = 0; row <= 15; row++) {
            WideStore x = new WideStore(20, 50);
            check.due("put in row " + row, x.put(row, 0, 1, 9, 0), true);
            check.due("get of row " + row, x.get(row, 0), 9);
            check.due("nextRow(0)", x.nextRow(0), row);
            check.due("delete in row " + row, x.delete(row, 1, 1), true);
            check.due("wipe in row " + row, x.wipe(row, 2, 2, 1), true);
        }
        for (int row : new int[] {LEAST, -2, -1, 16, 17, GREATEST}) {
            twins.refused("put in row " + row, x -> x.put(row, 0, 1, 9, 0) ? 1 : 0);
            twins.refused("delete in row " + row, x -> x.delete(row, 0, 1) ? 1 : 0);
            twins.refused("wipe in row " + row, x -> x.wipe(row, 0, 7, 1) ? 1 : 0);
            twins.changesNothing("get of row " + row, x -> x.get(row, 0), 0);
            twins.changesNothing("stamp of row " + row, x -> x.stamp(row, 0), -1);
            twins.changesNothing("next of row " + row, x -> x.next(row, 0), -1);
        }
    }

    private static void columnsAre0To7() {
        check.part("COLUMNS 0 .. 7");
        for (int column = 0; column <= 7; column++) {
            WideStore x = new WideStore(20, 50);
            check.due("put in column " + column, x.put(0, column, 1, 9, 0), true);
            check.due("get of column " + column, x.get(0, column), 9);
            check.due("next(0, 0)", x.next(0, 0), column);
            check.due("delete in column " + column, x.delete(1, column, 1), true);
            check.due("wipe of column " + column, x.wipe(2, column, column, 1), true);
        }
        for (int column : new int[] {LEAST, -2, -1, 8, 9, GREATEST}) {
            twins.refused("put in column " + column, x -> x.put(1, column, 1, 9, 0) ? 1 : 0);
            twins.refused("delete in column " + column, x -> x.delete(1, column, 1) ? 1 : 0);
            twins.refused("wipe of column " + column, x -> x.wipe(1, column, column, 1) ? 1 : 0);
            twins.changesNothing("get of column " + column, x -> x.get(1, column), 0);
            twins.changesNothing("stamp of column " + column, x -> x.stamp(1, column), -1);
        }
    }

    private static void nowCountsTicks() {
        check.part("NOW counts ticks");
        WideStore x = new WideStore(2, 0);
        check.due("NOW of a new object", x.tick(0), 0);
        // No other call moves the time.
        x.put(0, 0, 1, 1, 1);
        x.delete(0, 1, 1);
        x.wipe(0, 2, 3, 1);
        x.sync();
        x.crash();
        x.merge();
        x.flush();
        x.nextRow(0);
        check.due("NOW after other calls", x.tick(0), 0);
        check.due("tick(1)", x.tick(1), 1);
        check.due("tick(1)", x.tick(1), 2);
    }

    private static void thePointWithTheGreaterStampWins() {
        check.part("Of two points of one row and column the one WINS that has the greater stamp");
        int[][] stamps = {{0, 1}, {9998, 9999}, {0, 9999}, {127, 128}};
        for (int[] pair : stamps) {
            for (int way = 0; way < WAYS; way++) {
                greaterStamp(pair[0], pair[1], way);
                greaterStamp(pair[1], pair[0], way);
            }
        }
    }

    private static void greaterStamp(int earlier, int later, int way) {
        String stamps = earlier + ", then " + later + ", way " + way;
        WideStore x = new WideStore(20, 50);
        // The lesser stamp has the greater value and no end, which does not help it.
        x.put(1, 1, earlier, earlier < later ? 9 : 3, earlier < later ? 0 : 5);
        x.put(1, 2, earlier, 4, 0);
        x.delete(1, 3, earlier);
        between(x, way);
        x.put(1, 1, later, later < earlier ? 9 : 3, later < earlier ? 0 : 5);
        x.delete(1, 2, later);
        x.put(1, 3, later, 5, 0);
        after(x, way);
        check.due("get of two cells, " + stamps, x.get(1, 1), 3);
        check.due("stamp of two cells, " + stamps, x.stamp(1, 1), Math.max(earlier, later));
        check.due("a cell, then a deletion, " + stamps, x.get(1, 2), earlier > later ? 4 : 0);
        check.due("a deletion, then a cell, " + stamps, x.get(1, 3), earlier < later ? 5 : 0);
    }

    private static void withTheSameStampADeletionWinsOverACell() {
        check.part("with the same stamp a deletion over a cell");
        for (int stamp : new int[] {0, 1, 9999}) {
            for (int way = 0; way < WAYS; way++) {
                WideStore x = new WideStore(20, 50);
                x.delete(1, 1, stamp);
                x.put(1, 2, stamp, GREATEST, 0);
                between(x, way);
                x.put(1, 1, stamp, GREATEST, 0);
                x.delete(1, 2, stamp);
                after(x, way);
                check.due("a deletion, then a cell, way " + way, x.get(1, 1), 0);
                check.due("a cell, then a deletion, way " + way, x.stamp(1, 2), -1);
            }
        }
    }

    private static void ofTwoSuchCellsThatWithTheGreaterValue() {
        check.part("of two such cells that with the greater value");
        int[][] values = {{0, 1}, {-1, 0}, {LEAST, LEAST + 1}, {GREATEST - 1, GREATEST}, {LEAST, GREATEST}};
        for (int[] pair : values) {
            for (int way = 0; way < WAYS; way++) {
                WideStore x = new WideStore(20, 50);
                // The lesser value has no end, which does not help it.
                x.put(1, 1, 5, pair[0], 0);
                x.put(1, 2, 5, pair[1], 1);
                between(x, way);
                x.put(1, 1, 5, pair[1], 1);
                x.put(1, 2, 5, pair[0], 0);
                after(x, way);
                check.due("the greater one later, way " + way, x.get(1, 1), pair[1]);
                check.due("the greater one earlier, way " + way, x.get(1, 2), pair[1]);
                x.tick(1);
                check.due("the greater one ended, way " + way, x.stamp(1, 1), -1);
                check.due("the greater one ended, way " + way, x.stamp(1, 2), -1);
            }
        }
    }

    private static void thenThatWhichEndsLater() {
        check.part("then that which ends later");
        int[][] lives = {{1, 2}, {99, 100}, {1, 100}};
        for (int[] pair : lives) {
            for (int way = 0; way < WAYS; way++) {
                laterEnd(pair[0], pair[1], way);
            }
        }
        // Not the longer life, but the later end.
        for (int way = 0; way < WAYS; way++) {
            WideStore x = new WideStore(20, 50);
            x.put(1, 1, 5, 7, 5);
            between(x, way);
            x.tick(3);
            x.put(1, 1, 5, 7, 3);
            after(x, way);
            x.tick(2);
            check.due("get, way " + way, x.get(1, 1), 7);
            x.tick(1);
            check.due("get at the later end, way " + way, x.get(1, 1), 0);
        }
    }

    private static void laterEnd(int life, int longerLife, int way) {
        WideStore x = new WideStore(20, 50);
        x.put(1, 1, 5, 7, life);
        x.put(1, 2, 5, 7, longerLife);
        between(x, way);
        x.put(1, 1, 5, 7, longerLife);
        x.put(1, 2, 5, 7, life);
        after(x, way);
        x.tick(longerLife - 1);
        check.due("get before the later end, way " + way, x.get(1, 1), 7);
        check.due("get before the later end, way " + way, x.get(1, 2), 7);
        x.tick(1);
        check.due("get at the later end, way " + way, x.get(1, 1), 0);
        check.due("get at the later end, way " + way, x.get(1, 2), 0);
    }

    private static void noneIsLatest() {
        check.part("none is latest");
        for (int life : new int[] {1, 100}) {
            for (int way = 0; way < WAYS; way++) {
                WideStore x = new WideStore(20, 50);
                x.put(1, 1, 5, 7, life);
                x.put(1, 2, 5, 7, 0);
                between(x, way);
                x.put(1, 1, 5, 7, 0);
                x.put(1, 2, 5, 7, life);
                after(x, way);
                x.tick(life);
                check.due("none later, way " + way, x.get(1, 1), 7);
                check.due("none earlier, way " + way, x.get(1, 2), 7);
            }
        }
    }

    private static void ofTwoSuchDeletionsThatMadeLater() {
        check.part("of two such deletions that made later");
        for (int way = 0; way < WAYS; way++) {
            WideStore x = new WideStore(20, 6);
            x.delete(1, 1, 5);
            // With a lesser stamp the later one does not win.
            x.delete(1, 2, 6);
            between(x, way);
            x.tick(1);
            x.delete(1, 1, 5);
            x.delete(1, 2, 5);
            after(x, way);
            x.flush();
            x.tick(4);
            check.due("merge() before, way " + way, x.merge(), 2);
            x.tick(1);
            check.due("merge() when the earlier is old, way " + way, x.merge(), 1);
            x.tick(1);
            check.due("merge() when the later is old, way " + way, x.merge(), 0);
        }
    }

    private static void ofTwoWipesThatWinsThatHasTheGreaterStamp() {
        check.part("Of two wipes of the same row and columns that wins that has the greater stamp");
        int[][] stamps = {{0, 1}, {1, 0}, {9998, 9999}, {9999, 9998}};
        for (int[] pair : stamps) {
            for (int way = 0; way < WAYS; way++) {
                WideStore x = new WideStore(20, 6);
                x.wipe(1, 2, 4, pair[0]);
                between(x, way);
                x.tick(2);
                x.wipe(1, 2, 4, pair[1]);
                after(x, way);
                x.flush();
                x.put(1, 3, Math.max(pair[0], pair[1]), 8, 0);
                check.due("get, way " + way, x.get(1, 3), 0);
                x.tick(4);
                // The earlier one is old now, so that this tells which of them is left.
                check.due("merge(), way " + way, x.merge(), pair[0] > pair[1] ? 0 : 1);
                check.due("get, way " + way, x.get(1, 3), pair[0] > pair[1] ? 8 : 0);
            }
        }
    }

    private static void thenTheWipeMadeLater() {
        check.part("then that made later");
        for (int way = 0; way < WAYS; way++) {
            WideStore x = new WideStore(20, 6);
            x.wipe(1, 2, 4, 5);
            between(x, way);
            x.tick(1);
            x.wipe(1, 2, 4, 5);
            after(x, way);
            x.flush();
            x.tick(5);
            check.due("merge() when the earlier is old, way " + way, x.merge(), 1);
            x.tick(1);
            check.due("merge() when the later is old, way " + way, x.merge(), 0);
        }
    }

    private static void ofTheSameRowAndColumns() {
        check.part("of the same row and columns");
        int[][] others = {{5, 2, 4}, {7, 2, 4}, {6, 1, 4}, {6, 3, 4}, {6, 2, 3}, {6, 2, 5}};
        for (int[] other : others) {
            for (int way = 0; way < WAYS; way++) {
                WideStore x = new WideStore(20, 50);
                x.wipe(6, 2, 4, 5);
                between(x, way);
                x.wipe(other[0], other[1], other[2], 5);
                after(x, way);
                x.flush();
                check.due("merge() of two other wipes, way " + way, x.merge(), 2);
                x.wipe(6, 2, 4, 5);
                x.flush();
                check.due("merge() with the first again, way " + way, x.merge(), 2);
            }
        }
    }

    private static void aWipeCoversThePointsOfItsRowAndColumns() {
        check.part("A wipe COVERS the points of its row and columns");
        int[][] wipes = {{0, 0, 0}, {0, 0, 7}, {15, 7, 7}, {15, 0, 7}, {8, 2, 5}, {8, 3, 3}, {7, 0, 6}, {7, 1, 7}};
        for (int[] wipe : wipes) {
            for (int way = 0; way < WAYS; way++) {
                for (int row = Math.max(0, wipe[0] - 1); row <= Math.min(15, wipe[0] + 1); row++) {
                    coversColumns(wipe, row, way);
                }
            }
        }
    }

    private static void coversColumns(int[] wipe, int row, int way) {
        WideStore x = new WideStore(20, 50);
        for (int column = 0; column < 8; column++) {
            x.put(row, column, 5, 1, 0);
        }
        between(x, way);
        x.wipe(wipe[0], wipe[1], wipe[2], 5);
        after(x, way);
        for (int column = 0; column < 8; column++) {
            boolean inside = row == wipe[0] && column >= wipe[1] && column <= wipe[2];
            check.due("get(" + row + ", " + column + "), way " + way, x.get(row, column), inside ? 0 : 1);
        }
    }

    private static void whoseStampIsNotGreaterThanItsOwn() {
        check.part("whose stamp is not greater than its own");
        for (int stamp : new int[] {1, 500, 9998}) {
            for (int way = 0; way < WAYS; way++) {
                WideStore x = new WideStore(20, 50);
                x.wipe(1, 0, 7, stamp);
                between(x, way);
                x.put(1, 1, stamp - 1, 1, 0);
                x.put(1, 2, stamp, 2, 0);
                x.put(1, 3, stamp + 1, 3, 0);
                after(x, way);
                check.due("get of a lesser stamp, way " + way, x.get(1, 1), 0);
                check.due("get of the same stamp, way " + way, x.get(1, 2), 0);
                check.due("get of a greater stamp, way " + way, x.get(1, 3), 3);
            }
        }
        WideStore x = new WideStore(20, 50);
        x.wipe(0, 0, 7, 0);
        x.put(0, 0, 0, 1, 0);
        x.put(0, 1, 1, 1, 0);
        x.wipe(1, 0, 7, 9999);
        x.put(1, 0, 9999, 1, 0);
        check.due("get of stamp 0", x.get(0, 0), 0);
        check.due("get of stamp 1", x.get(0, 1), 1);
        check.due("get of stamp 9999", x.get(1, 0), 0);
    }

    private static void atMostOnePointForARowAndColumn() {
        check.part("at most one point for a row and column");
        WideStore x = new WideStore(20, 50);
        x.put(6, 3, 5, 1, 0);
        counts("the first", x, 1, 0, 1, 0);
        x.put(6, 3, 6, 1, 0);
        x.put(6, 3, 4, 1, 0);
        x.delete(6, 3, 7);
        x.delete(6, 3, 3);
        counts("of the same row and column", x, 1, 0, 5, 0);
        x.put(6, 2, 5, 1, 0);
        x.put(6, 4, 5, 1, 0);
        x.put(5, 3, 5, 1, 0);
        x.delete(7, 3, 5);
        counts("of others", x, 5, 0, 9, 0);
    }

    private static void atMostOneWipeForARowAndTheSameTwoColumns() {
        check.part("at most one wipe for a row and the same two columns");
        WideStore x = new WideStore(20, 50);
        x.wipe(6, 3, 4, 5);
        x.wipe(6, 3, 4, 5);
        x.wipe(6, 3, 4, 4);
        x.wipe(6, 3, 4, 6);
        counts("of the same row and columns", x, 1, 0, 4, 0);
        x.wipe(6, 2, 4, 5);
        x.wipe(6, 3, 5, 5);
        x.wipe(6, 4, 4, 5);
        x.wipe(6, 3, 3, 5);
        x.wipe(5, 3, 4, 5);
        x.wipe(7, 3, 4, 5);
        counts("of others", x, 7, 0, 10, 0);
        x.put(6, 3, 1, 1, 0);
        x.put(6, 4, 1, 1, 0);
        counts("with points", x, 9, 0, 12, 0);
        check.due("flush()", x.flush(), 9);
        run("flushed", x, 0, 9, 0, 7);
    }

    private static void theOneThatWinsStays() {
        check.part("if there is one like that, the one that wins stays, else it is put there too");
        WideStore x = new WideStore(20, 50);
        x.put(1, 1, 5, 50, 0);
        x.put(1, 1, 5, 49, 0);
        check.due("get after a loser", x.get(1, 1), 50);
        x.put(1, 1, 5, 51, 0);
        check.due("get after a winner", x.get(1, 1), 51);
        x.put(1, 1, 5, 51, 0);
        check.due("get after an equal one", x.get(1, 1), 51);
        counts("one like that", x, 1, 0, 4, 0);
        x.put(1, 2, 5, 1, 0);
        counts("none like that", x, 2, 0, 5, 0);
        check.due("get", x.get(1, 2), 1);
    }

    private static void coveredPointsStay() {
        check.part("covered points stay");
        WideStore x = new WideStore(20, 50);
        x.put(1, 1, 5, 1, 0);
        x.delete(1, 2, 5);
        x.wipe(1, 0, 7, 5);
        counts("the wipe later", x, 3, 0, 3, 0);
        x.put(1, 3, 4, 1, 0);
        x.delete(1, 4, 4);
        counts("the wipe earlier", x, 5, 0, 5, 0);
        x.sync();
        check.due("crash()", x.crash(), 5);
        counts("added again", x, 5, 0, 5, 5);
        check.due("flush()", x.flush(), 5);
        run("flushed", x, 0, 5, 0, 1);
        check.due("next(1, 0)", x.next(1, 0), -1);
    }

    private static void theLogHasAllThatWasAddedSinceTheLastFlush() {
        check.part("The LOG has all that was added since the last flush");
        WideStore x = new WideStore(2, 50);
        counts("nothing added", x, 0, 0, 0, 0);
        for (int i = 1; i <= 20; i++) {
            x.put(1, 1, i, 1, 0);
            x.delete(1, 1, i - 1);
            x.wipe(1, 0, 7, 20 - i);
            counts("added " + 3 * i, x, 2, 0, 3 * i, 0);
        }
        x.flush();
        counts("flushed", x, 0, 1, 0, 0);
        x.put(1, 1, 0, 1, 0);
        counts("added one", x, 1, 1, 1, 0);
        x.put(16, 1, 0, 1, 0);
        x.delete(1, 8, 0);
        x.wipe(1, 2, 1, 0);
        counts("refused", x, 1, 1, 1, 0);
        x.put(1, 2, 1, 1, 0);
        x.put(1, 3, 1, 1, 0);
        counts("flushed by an addition", x, 0, 2, 0, 0);
    }

    private static void inOrderOfWhichTheFirstSoManyAreSafe() {
        check.part("in order, of which the first so many are SAFE");
        for (int safe = 0; safe <= 6; safe++) {
            WideStore x = new WideStore(20, 50);
            for (int i = 0; i < 6; i++) {
                if (i == safe) {
                    x.sync();
                }
                x.put(1, 1, 10 + i, 100 + i, 0);
            }
            if (safe == 6) {
                x.sync();
            }
            counts("safe " + safe, x, 1, 0, 6, safe);
            check.due("safe " + safe + ": crash()", x.crash(), safe);
            counts("safe " + safe + ", crashed", x, safe == 0 ? 0 : 1, 0, safe, safe);
            check.due("safe " + safe + ": get", x.get(1, 1), safe == 0 ? 0 : 99 + safe);
        }
    }

    private static void ifTheMemoryHasEntriesTheyBecomeANewRun() {
        check.part("if the memory has entries, they become a new RUN, of tier 0, the newest one");
        twins.changesNothing("flush() of an empty memory", x -> { }, x -> x.flush(), 0);
        twins.changesNothing("flush() of an empty memory, one run", x -> flushOne(x, 1, 1), x -> x.flush(), 0);
        WideStore x = new WideStore(20, 50);
        for (int i = 0; i < 3; i++) {
            flushOne(x, 0, i);
        }
        x.put(1, 1, 5, 1, 0);
        check.due("flush() of one entry", x.flush(), 1);
        check.due("count(1)", x.count(1), 2);
        run("the older one", x, 0, 3, 1, 0);
        run("the newest one", x, 1, 1, 0, 0);
    }

    private static void theMemoryIsEmptyTheLogTooNothingIsSafe() {
        check.part("the memory is empty, the log too, nothing is safe");
        for (int by = 0; by < 2; by++) {
            WideStore x = new WideStore(2, 50);
            x.put(1, 1, 5, 1, 0);
            x.put(1, 1, 4, 1, 0);
            x.delete(1, 2, 5);
            x.sync();
            counts("before", x, 2, 0, 3, 3);
            if (by == 0) {
                x.flush();
            } else {
                x.wipe(1, 2, 3, 5);
            }
            counts("flushed", x, 0, 1, 0, 0);
            check.due("crash()", x.crash(), 0);
            check.due("get from the run", x.get(1, 1), 1);
            x.put(2, 2, 1, 1, 0);
            counts("one more", x, 1, 1, 1, 0);
        }
    }

    private static void asLongAsTheThreeNewestRunsAreOfOneTier() {
        check.part("as long as the three newest runs are of one tier, they are MERGED");
        WideStore x = new WideStore(20, 50);
        String[] tiers = {"0", "00", "1", "10", "100", "11", "110", "1100", "2", "20", "200", "21", "210", "2100",
            "211", "2110", "21100", "22", "220", "2200", "221", "2210", "22100", "2211", "22110", "221100", "3"};
        for (int i = 0; i < tiers.length; i++) {
            flushOne(x, i % 16, i / 16);
            tiersAre(x, tiers[i]);
        }
        // A run that a merge of all left counts as well, with its tier.
        x = new WideStore(20, 50);
        flushOne(x, 0, 0);
        x.merge();
        tiersAre(x, "0");
        flushOne(x, 0, 1);
        tiersAre(x, "00");
        flushOne(x, 0, 2);
        tiersAre(x, "1");
        x.merge();
        tiersAre(x, "1");
        flushOne(x, 0, 3);
        flushOne(x, 0, 4);
        tiersAre(x, "100");
        x.merge();
        tiersAre(x, "1");
    }

    private static void tiersAre(WideStore x, String tiers) {
        check.due(tiers + ": count(1)", x.count(1), tiers.length());
        for (int k = 0; k < tiers.length(); k++) {
            check.due(tiers + ": run(" + k + ", 1)", x.run(k, 1), tiers.charAt(k) - '0');
        }
        check.due(tiers + ": run beyond", x.run(tiers.length(), 1), -1);
    }

    private static void oneRunOfTheNextTierTakesTheirPlace() {
        check.part("one run of the next tier takes their place");
        WideStore x = new WideStore(20, 50);
        for (int i = 0; i < 3; i++) {
            flushOne(x, 0, i);
        }
        flushOne(x, 1, 0);
        x.wipe(2, 0, 1, 1);
        flushOne(x, 1, 1);
        run("two", x, 0, 3, 1, 0);
        run("two", x, 1, 1, 0, 0);
        run("two", x, 2, 2, 0, 1);
        flushOne(x, 1, 2);
        check.due("three: count(1)", x.count(1), 2);
        run("three, the older one", x, 0, 3, 1, 0);
        run("three", x, 1, 4, 1, 1);
    }

    private static void moreThanCapEntries() {
        check.part("When an addition leaves the memory with more than CAP entries, it flushes");
        for (int cap = 2; cap <= 20; cap++) {
            for (int kind = 0; kind < 3; kind++) {
                WideStore x = new WideStore(cap, 50);
                for (int i = 0; i < cap; i++) {
                    x.put(i / 8, i % 8, 5, 1, 0);
                }
                // Additions that leave it with CAP entries: one that wins, one that loses.
                x.put(0, 0, 6, 1, 0);
                x.delete(0, 0, 4);
                counts("cap " + cap, x, cap, 0, cap + 2, 0);
                addOfKind(x, kind);
                counts("cap " + cap + " and one more", x, 0, 1, 0, 0);
                run("cap " + cap + " and one more", x, 0, cap + 1, 0, kind == 2 ? 1 : 0);
            }
        }
    }

    private static void addOfKind(WideStore x, int kind) {
        if (kind == 0) {
            x.put(15, 7, 0, 1, 0);
        } else if (kind == 1) {
            x.delete(15, 7, 0);
        } else {
            x.wipe(15, 7, 7, 0);
        }
    }

    private static void ofAllTheirPointsTheOneThatWins() {
        check.part("of all their points of one row and column the one that wins");
        int[][] orders = {{1, 2, 3}, {1, 3, 2}, {2, 1, 3}, {2, 3, 1}, {3, 1, 2}, {3, 2, 1}};
        for (int[] order : orders) {
            WideStore x = new WideStore(20, 50);
            for (int i = 0; i < 3; i++) {
                x.put(1, 1, order[i], 10 * order[i], 0);
                x.put(1, 2 + i, 1, 1, 0);
                x.flush();
            }
            run("three runs merged", x, 0, 4, 1, 0);
            check.due("get", x.get(1, 1), 30);
            check.due("stamp", x.stamp(1, 1), 3);
        }
    }

    private static void ofAllTheirWipesTheOneThatWins() {
        check.part("of all their wipes of one row and the same columns the one that wins");
        int[][] orders = {{1, 2, 3}, {1, 3, 2}, {2, 1, 3}, {2, 3, 1}, {3, 1, 2}, {3, 2, 1}};
        for (int[] order : orders) {
            WideStore x = new WideStore(20, 50);
            for (int i = 0; i < 3; i++) {
                x.wipe(1, 1, 3, order[i]);
                x.wipe(1, 2, 3 + i, 1);
                x.flush();
            }
            run("three runs merged", x, 0, 4, 1, 4);
            x.put(1, 1, 3, 1, 0);
            check.due("get of the greatest stamp", x.get(1, 1), 0);
            x.put(1, 1, 4, 1, 0);
            check.due("get of a greater one", x.get(1, 1), 1);
        }
    }

    private static void pointsThatAWipeAmongTheseCoversAreLeftOut() {
        check.part("then all points that a wipe among these covers are left out");
        for (int wipeFirst = 0; wipeFirst < 2; wipeFirst++) {
            WideStore x = new WideStore(20, 50);
            if (wipeFirst == 1) {
                x.wipe(4, 2, 5, 10);
                x.flush();
            }
            for (int column = 1; column <= 6; column++) {
                x.put(4, column, column == 3 ? 11 : 10, 1, 0);
            }
            x.delete(4, 4, 10);
            x.put(3, 3, 10, 1, 0);
            x.put(5, 3, 10, 1, 0);
            x.flush();
            if (wipeFirst == 0) {
                x.wipe(4, 2, 5, 10);
                x.flush();
            }
            // Columns 1 and 6, column 3 with its greater stamp, the rows beside, and the wipe.
            check.due("merge()", x.merge(), 6);
            run("merged", x, 0, 6, 0, 1);
            check.due("next(4, 2)", x.next(4, 2), 3);
        }
        everyPlaceIsLeftOut();
        wipesThatAreNotAmongThese();
        theWinnerIsLeftOutNotTheNextOne();
    }

    private static void everyPlaceIsLeftOut() {
        for (int place = 0; place < 128; place++) {
            int row = place / 8;
            int column = place % 8;
            WideStore x = new WideStore(20, 50);
            x.put(row, column, 10, 1, 0);
            x.flush();
            x.wipe(row, column, column, 10);
            x.flush();
            check.due("(" + row + ", " + column + "): merge()", x.merge(), 1);
            check.due("(" + row + ", " + column + "): run(0, 2)", x.run(0, 2), 1);
        }
    }

    private static void wipesThatAreNotAmongThese() {
        WideStore x = new WideStore(20, 50);
        x.put(4, 3, 10, 1, 0);
        x.flush();
        x.wipe(4, 0, 7, 10);
        check.due("merge(), the wipe in memory", x.merge(), 1);

        x = new WideStore(20, 50);
        for (int i = 0; i < 2; i++) {
            flushOne(x, 0, i);
        }
        x.wipe(4, 0, 7, 10);
        x.flush();
        for (int i = 0; i < 3; i++) {
            flushOne(x, 4, i);
        }
        run("the wipe in an older run", x, 1, 3, 1, 0);
        check.due("next(4, 0)", x.next(4, 0), -1);
        check.due("merge(), the wipe among these", x.merge(), 3);
    }

    private static void theWinnerIsLeftOutNotTheNextOne() {
        // First the one that wins, then what is covered: the loser does not come back.
        WideStore x = new WideStore(20, 0);
        x.put(4, 3, 9, 90, 0);
        x.flush();
        x.put(4, 3, 10, 100, 0);
        x.flush();
        x.wipe(4, 3, 3, 10);
        x.flush();
        run("merged", x, 0, 0, 1, 0);
        check.due("get", x.get(4, 3), 0);
    }

    private static void ifTheseWereAllRunsThereAre() {
        check.part("If these were all runs there are");
        WideStore x = new WideStore(20, 0);
        for (int i = 0; i < 3; i++) {
            x.delete(1, i, 1);
            x.flush();
        }
        run("three of three", x, 0, 0, 1, 0);
        for (int i = 0; i < 3; i++) {
            x.delete(1, i, 1);
            x.wipe(1, i, 7, 0);
            x.put(2, i, 1, 1, 1);
            x.flush();
        }
        check.due("three of four: count(1)", x.count(1), 2);
        run("three of four", x, 1, 9, 1, 3);
        x.tick(1);
        check.due("merge() of two of two", x.merge(), 0);
        x.delete(1, 1, 1);
        x.flush();
        // The memory is no run: it can have entries all the same.
        x.delete(1, 2, 1);
        check.due("merge() of all, beside a memory", x.merge(), 0);
        check.due("count(0)", x.count(0), 1);
    }

    private static void deletionsAndWipesMadeGraceTicksAgoOrMore() {
        check.part("all deletions and wipes that were made GRACE ticks ago or more");
        for (int grace = 0; grace <= 50; grace++) {
            for (int later = -1; later <= 1; later++) {
                if (grace + later >= 0) {
                    madeAgo(grace, grace + later);
                }
            }
        }
    }

    private static void madeAgo(int grace, int ago) {
        WideStore x = new WideStore(20, grace);
        x.tick(13);
        x.delete(0, 0, 9999);
        x.delete(15, 7, 0);
        x.wipe(1, 0, 0, 0);
        x.wipe(2, 0, 7, 9999);
        x.wipe(15, 7, 7, 9999);
        x.flush();
        x.put(15, 7, 1, 1, 0);
        x.tick(ago);
        // The wipe of the last column covers the older deletion there.
        check.due("grace " + grace + ", made " + ago + " ago: merge()", x.merge(), ago >= grace ? 0 : 4);
        check.due("grace " + grace + ", made " + ago + " ago: run(0, 2)", x.run(0, 2), ago >= grace ? 0 : 3);
        check.due("grace " + grace + ", made " + ago + " ago: get", x.get(15, 7), ago >= grace ? 1 : 0);
    }

    private static void cellsThatEndedGraceTicksAgoOrMore() {
        check.part("all cells that ended GRACE ticks ago or more");
        for (int grace = 0; grace <= 50; grace++) {
            for (int later = -1; later <= 1; later++) {
                for (int life : new int[] {1, 2, 49}) {
                    endedAgo(grace, grace + later, life);
                }
            }
        }
    }

    private static void endedAgo(int grace, int ago, int life) {
        WideStore x = new WideStore(20, grace);
        x.tick(13);
        x.put(0, 0, 9999, 1, life);
        x.put(15, 7, 0, 1, life);
        x.put(1, 2, 0, 1, 0);
        x.flush();
        x.tick(life + ago);
        check.due("grace " + grace + ", ended " + ago + " ago: merge()", x.merge(), ago >= grace ? 1 : 3);
        check.due("grace " + grace + ": get of what never ends", x.get(1, 2), 1);
    }

    private static void afterThat() {
        check.part("(after that)");
        // An old wipe or deletion still takes what it covers, or wins over, with it; so does an ended cell.
        WideStore x = new WideStore(20, 0);
        x.put(1, 1, 5, 1, 0);
        x.put(1, 2, 6, 2, 0);
        x.put(2, 1, 5, 1, 0);
        x.put(3, 1, 5, 3, 0);
        x.flush();
        x.wipe(1, 0, 7, 5);
        x.delete(2, 1, 5);
        x.put(3, 1, 6, 4, 1);
        x.flush();
        x.tick(1);
        check.due("merge()", x.merge(), 1);
        check.due("get under the wipe", x.get(1, 1), 0);
        check.due("get above the wipe", x.get(1, 2), 2);
        check.due("get of what is deleted", x.get(2, 1), 0);
        check.due("get under what ended", x.get(3, 1), 0);
    }

    private static void aRunCanBeEmpty() {
        check.part("A run can be empty");
        WideStore x = new WideStore(20, 0);
        x.delete(1, 1, 1);
        x.flush();
        check.due("merge() to nothing", x.merge(), 0);
        tiersAre(x, "0");
        run("empty", x, 0, 0, 0, 0);
        check.due("merge() of the empty run", x.merge(), 0);
        tiersAre(x, "0");
        // It counts among the three newest, and among all runs.
        flushOne(x, 2, 2);
        tiersAre(x, "00");
        flushOne(x, 2, 3);
        tiersAre(x, "1");
        run("merged with an empty run", x, 0, 2, 1, 0);
        check.due("next(2, 0)", x.next(2, 0), 2);
    }

    private static void thePointThatWinsAmongThoseInMemoryAndInAllRuns() {
        check.part("A row and column has the point that wins among those in memory and in all runs");
        for (int winner = 0; winner < 9; winner++) {
            WideStore x = new WideStore(20, 50);
            for (int i = 0; i < 9; i++) {
                x.put(1, 1, i == winner ? 9 : i, 100 + i, 0);
                if (i < 8) {
                    x.flush();
                }
            }
            tiersAre(x, "1100");
            check.due("entries in memory", x.count(0), 1);
            check.due("get, the winner is addition " + winner, x.get(1, 1), 100 + winner);
            check.due("stamp, the winner is addition " + winner, x.stamp(1, 1), 9);
        }
    }

    private static void noneIfThereAreNone() {
        check.part("(none, if there are none)");
        for (int way = 0; way < WAYS; way++) {
            WideStore x = new WideStore(20, 50);
            between(x, way);
            x.put(1, 2, 1, 1, 0);
            after(x, way);
            for (int column = 0; column < 8; column++) {
                check.due("get(1, " + column + ")", x.get(1, column), column == 2 ? 1 : 0);
                check.due("stamp(1, " + column + ")", x.stamp(1, column), column == 2 ? 1 : -1);
                check.due("stamp(0, " + column + ")", x.stamp(0, column), -1);
                check.due("stamp(2, " + column + ")", x.stamp(2, column), -1);
            }
        }
    }

    private static void itIsSeenIfThatIsACell() {
        check.part("It is SEEN if that is a cell");
        for (int way = 0; way < WAYS; way++) {
            WideStore x = new WideStore(20, 50);
            x.put(1, 1, 5, 0, 0);
            seen(x, "a cell with value 0, way " + way, true);
            between(x, way);
            x.delete(1, 1, 5);
            after(x, way);
            seen(x, "a deletion, way " + way, false);
            x.put(1, 1, 6, 0, 0);
            seen(x, "a cell again, way " + way, true);
        }
    }

    /** Whether row 1 and column 1, the only one with a point, is seen by all calls that ask for it. */
    private static void seen(WideStore x, String when, boolean want) {
        check.due(when + ": stamp", x.stamp(1, 1) != -1, want);
        check.due(when + ": next", x.next(1, 0), want ? 1 : -1);
        check.due(when + ": nextRow", x.nextRow(0), want ? 1 : -1);
    }

    private static void whichDoesNotEndOrEndsAfterNow() {
        check.part("which does not end, or ends after NOW");
        for (int life : new int[] {1, 2, 99, 100}) {
            for (int way = 0; way < WAYS; way++) {
                WideStore x = new WideStore(20, 50);
                x.tick(100);
                between(x, way);
                x.put(1, 1, 5, 7, life);
                after(x, way);
                x.tick(life - 1);
                seen(x, "a tick before the end", true);
                check.due("get a tick before the end", x.get(1, 1), 7);
                x.tick(1);
                seen(x, "at the end", false);
                check.due("get at the end", x.get(1, 1), 0);
                x.tick(1);
                seen(x, "a tick after the end", false);
            }
        }
        WideStore x = new WideStore(20, 50);
        x.put(1, 1, 5, 7, 0);
        for (int i = 0; i < 400; i++) {
            x.tick(100);
        }
        seen(x, "no end", true);
    }

    private static void andNoWipeInMemoryOrInARunCoversIt() {
        check.part("and no wipe in memory or in a run covers it");
        // The wipe is in memory (5) or in one of five runs, of the tiers 1, 0 and 0.
        for (int place = 0; place <= 5; place++) {
            for (int stamp = 4; stamp <= 5; stamp++) {
                WideStore x = new WideStore(20, 50);
                for (int i = 0; i <= 5; i++) {
                    x.put(1, 1, 5, 7, 0);
                    if (i == place) {
                        x.wipe(1, 1, 1, stamp);
                    }
                    if (i < 5) {
                        x.flush();
                    }
                }
                tiersAre(x, "100");
                seen(x, "a wipe of stamp " + stamp + " in place " + place, stamp == 4);
            }
        }
    }

    private static void theConstants() {
        check.part("NONE = -1: Nothing there");
        check.due("NONE", WideStore.NONE, -1);
        WideStore x = new WideStore(2, 0);
        check.due("stamp", x.stamp(0, 0), WideStore.NONE);
        check.due("next", x.next(0, 0), WideStore.NONE);
        check.due("nextRow", x.nextRow(0), WideStore.NONE);
        check.due("count", x.count(4), WideStore.NONE);
        check.due("run", x.run(0, 0), WideStore.NONE);
    }
}
