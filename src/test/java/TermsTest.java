/** The rules of the document's terms: which entry wins, what a wipe covers, what a merge leaves out. */
public final class TermsTest {
    private static final Check check = new Check();

    // How two entries come to meet: in memory, in memory and a run, in two runs, in one merged run.
    private static final int WAYS = 4;

    public static void main(String[] args) {
        greaterStampWins();
        deletionWinsOverCell();
        greaterValueWins();
        laterEndWins();
        laterDeletionStays();
        laterWipeStays();
        greaterWipeStays();
        coveredPointsLeftOutOfMerge();
        wipeLeftOutAfterItsPoints();
        oldEntriesLeftOut();
        onlyMergesOfAllRunsLeaveOut();
        oldWipeDroppedShowsMemory();
        sameAnswersWhateverIsFlushed();
        check.finish();
    }

    private static void between(WideStore x, int way) {
        if (way > 0) {
            x.flush();
        }
    }

    private static void after(WideStore x, int way) {
        if (way > 1) {
            x.flush();
        }
        if (way > 2) {
            x.merge();
        }
    }

    private static void greaterStampWins() {
        check.part("the greater stamp wins");
        for (int way = 0; way < WAYS; way++) {
            for (int order = 0; order < 2; order++) {
                WideStore x = new WideStore(20, 50);
                x.put(1, 1, order == 0 ? 5 : 6, order == 0 ? 9 : 3, 0);
                between(x, way);
                x.put(1, 1, order == 0 ? 6 : 5, order == 0 ? 3 : 9, 0);
                after(x, way);
                check.due("get, way " + way, x.get(1, 1), 3);
                check.due("stamp, way " + way, x.stamp(1, 1), 6);
            }
        }
    }

    private static void deletionWinsOverCell() {
        check.part("a deletion wins over a cell of its stamp");
        for (int way = 0; way < WAYS; way++) {
            for (int order = 0; order < 2; order++) {
                WideStore x = new WideStore(20, 50);
                if (order == 0) {
                    x.delete(1, 1, 5);
                } else {
                    x.put(1, 1, 5, 7, 0);
                }
                between(x, way);
                if (order == 0) {
                    x.put(1, 1, 5, 7, 0);
                } else {
                    x.delete(1, 1, 5);
                }
                after(x, way);
                check.due("get, way " + way, x.get(1, 1), 0);
            }
            WideStore x = new WideStore(20, 50);
            x.delete(1, 1, 5);
            between(x, way);
            x.put(1, 1, 6, 7, 0);
            after(x, way);
            check.due("get of a greater stamp, way " + way, x.get(1, 1), 7);
        }
    }

    private static void greaterValueWins() {
        check.part("the greater value wins");
        int[][] pairs = {{3, 4}, {-4, -3}, {-1, 1}, {Integer.MIN_VALUE, Integer.MAX_VALUE}};
        for (int way = 0; way < WAYS; way++) {
            for (int[] pair : pairs) {
                for (int order = 0; order < 2; order++) {
                    WideStore x = new WideStore(20, 50);
                    // The lesser value ends later, which does not help it.
                    x.put(1, 1, 5, pair[order], order == 0 ? 0 : 9);
                    between(x, way);
                    x.put(1, 1, 5, pair[1 - order], order == 0 ? 9 : 0);
                    after(x, way);
                    check.due("get, way " + way, x.get(1, 1), pair[1]);
                }
            }
        }
    }

    private static void laterEndWins() {
        check.part("what ends later wins");
        int[][] lives = {{3, 4}, {4, 0}, {100, 0}, {1, 100}};
        for (int way = 0; way < WAYS; way++) {
            for (int[] life : lives) {
                for (int order = 0; order < 2; order++) {
                    WideStore x = new WideStore(20, 50);
                    x.put(1, 1, 5, 7, life[order]);
                    between(x, way);
                    x.put(1, 1, 5, 7, life[1 - order]);
                    after(x, way);
                    x.tick(life[0]);
                    check.due("get, way " + way, x.get(1, 1), 7);
                    x.tick(100);
                    check.due("get later, way " + way, x.get(1, 1), life[1] == 0 ? 7 : 0);
                }
            }
        }
    }

    private static void laterDeletionStays() {
        check.part("the deletion made later stays");
        for (int way = 0; way < WAYS; way++) {
            WideStore x = new WideStore(20, 10);
            x.delete(1, 1, 5);
            between(x, way);
            x.tick(4);
            x.delete(1, 1, 5);
            after(x, way);
            x.flush();
            x.tick(9);
            check.due("merge(), way " + way, x.merge(), 1);
            x.tick(1);
            check.due("merge(), way " + way, x.merge(), 0);
        }
        WideStore x = new WideStore(20, 10);
        x.delete(1, 1, 5);
        x.tick(4);
        x.delete(1, 1, 4);
        x.flush();
        x.tick(6);
        check.due("merge() with the greater stamp made earlier", x.merge(), 0);
    }

    private static void laterWipeStays() {
        check.part("the wipe made later stays");
        for (int way = 0; way < WAYS; way++) {
            WideStore x = new WideStore(20, 10);
            x.wipe(1, 1, 4, 5);
            between(x, way);
            x.tick(4);
            x.wipe(1, 1, 4, 5);
            after(x, way);
            x.flush();
            x.tick(9);
            check.due("merge(), way " + way, x.merge(), 1);
            check.due("run(0, 2), way " + way, x.run(0, 2), 1);
            x.tick(1);
            check.due("merge(), way " + way, x.merge(), 0);
        }
    }

    private static void greaterWipeStays() {
        check.part("the wipe with the greater stamp stays");
        for (int way = 0; way < WAYS; way++) {
            for (int order = 0; order < 2; order++) {
                WideStore x = new WideStore(20, 10);
                x.put(1, 2, 6, 1, 0);
                x.put(1, 3, 7, 1, 0);
                x.wipe(1, 1, 4, order == 0 ? 5 : 6);
                between(x, way);
                x.tick(4);
                x.wipe(1, 1, 4, order == 0 ? 6 : 5);
                after(x, way);
                check.due("get(1, 2), way " + way, x.get(1, 2), 0);
                check.due("get(1, 3), way " + way, x.get(1, 3), 1);
                x.flush();
                x.tick(6);
                check.due("merge(), way " + way, x.merge(), order == 0 ? 2 : 1);
                check.due("run(0, 2), way " + way, x.run(0, 2), order == 0 ? 1 : 0);
            }
        }
    }

    private static void coveredPointsLeftOutOfMerge() {
        check.part("covered points are left out");
        WideStore x = new WideStore(20, 50);
        x.put(1, 0, 5, 1, 0);
        x.put(1, 1, 5, 1, 0);
        x.put(1, 2, 6, 1, 0);
        x.delete(1, 3, 5);
        x.delete(1, 4, 6);
        x.put(1, 5, 5, 1, 0);
        x.put(2, 3, 5, 1, 0);
        x.flush();
        x.wipe(1, 1, 4, 5);
        x.flush();
        check.due("run(0, 0)", x.run(0, 0), 7);
        check.due("merge()", x.merge(), 6);
        check.due("run(0, 2)", x.run(0, 2), 1);
        check.due("next(1, 1)", x.next(1, 1), 2);
        check.due("get(2, 3)", x.get(2, 3), 1);

        // A wipe in memory leaves nothing out of a merge of runs.
        x.wipe(1, 0, 7, 9);
        check.due("merge()", x.merge(), 6);

        // Nor does a wipe in a run that is not merged.
        x = new WideStore(20, 50);
        x.wipe(1, 0, 7, 9);
        x.flush();
        x.put(3, 0, 1, 1, 0);
        x.flush();
        x.put(3, 1, 1, 1, 0);
        x.flush();
        for (int column = 0; column < 3; column++) {
            x.put(1, column, 5, 1, 0);
            x.flush();
        }
        check.due("count(1)", x.count(1), 2);
        check.due("run(1, 0)", x.run(1, 0), 3);
        check.due("next(1, 0)", x.next(1, 0), -1);
        check.due("merge()", x.merge(), 3);
    }

    private static void wipeLeftOutAfterItsPoints() {
        check.part("an old wipe takes its points with it");
        WideStore x = new WideStore(20, 0);
        x.put(1, 1, 5, 1, 0);
        x.put(1, 2, 6, 2, 0);
        x.wipe(1, 0, 7, 5);
        x.flush();
        check.due("merge()", x.merge(), 1);
        check.due("run(0, 2)", x.run(0, 2), 0);
        check.due("next(1, 0)", x.next(1, 0), 2);

        // So does an old deletion with the cell over which it won.
        x = new WideStore(20, 0);
        x.put(1, 1, 5, 1, 0);
        x.flush();
        x.delete(1, 1, 5);
        x.flush();
        check.due("merge()", x.merge(), 0);
        check.due("get(1, 1)", x.get(1, 1), 0);
        x.put(1, 1, 1, 8, 0);
        check.due("get(1, 1)", x.get(1, 1), 8);
    }

    private static void oldEntriesLeftOut() {
        check.part("old entries are left out");
        for (int grace = 0; grace <= 50; grace += 5) {
            WideStore x = new WideStore(20, grace);
            x.tick(3);
            x.delete(1, 1, 1);
            x.wipe(2, 0, 7, 1);
            x.put(3, 0, 1, 1, 7);
            x.put(3, 1, 1, 1, 0);
            x.flush();
            if (grace > 0) {
                x.tick(grace - 1);
                check.due("merge() a tick before, grace " + grace, x.merge(), 4);
                x.tick(1);
            }
            check.due("merge(), grace " + grace, x.merge(), 2);
            check.due("run(0, 2), grace " + grace, x.run(0, 2), 0);
            x.tick(6);
            check.due("merge() a tick before the cell, grace " + grace, x.merge(), 2);
            x.tick(1);
            check.due("merge(), grace " + grace, x.merge(), 1);
            x.tick(100);
            check.due("merge() with what never ends, grace " + grace, x.merge(), 1);
            check.due("get, grace " + grace, x.get(3, 1), 1);
        }
    }

    private static void onlyMergesOfAllRunsLeaveOut() {
        check.part("only a merge of all runs leaves out what is old");
        WideStore x = new WideStore(20, 0);
        x.put(0, 0, 1, 1, 1);
        x.flush();
        x.delete(0, 1, 1);
        x.flush();
        x.tick(1);
        x.wipe(0, 2, 3, 1);
        check.due("flush()", x.flush(), 1);
        check.due("count(1)", x.count(1), 1);
        check.due("run(0, 0)", x.run(0, 0), 0);
        check.due("run(0, 1)", x.run(0, 1), 1);
        for (int i = 0; i < 3; i++) {
            x.delete(5, i, 1);
            x.flush();
        }
        // The empty run is a run all the same, so these three were not all.
        check.due("count(1)", x.count(1), 2);
        check.due("run(1, 0)", x.run(1, 0), 3);
        for (int i = 3; i < 6; i++) {
            x.delete(5, i, 1);
            x.flush();
        }
        check.due("count(1)", x.count(1), 1);
        check.due("run(0, 0)", x.run(0, 0), 0);
        check.due("run(0, 1)", x.run(0, 1), 2);
    }

    private static void oldWipeDroppedShowsMemory() {
        check.part("what is in memory is seen when an old wipe of the runs is dropped");
        WideStore x = new WideStore(20, 5);
        x.wipe(1, 0, 7, 5);
        x.delete(2, 2, 5);
        x.flush();
        x.put(1, 1, 4, 41, 0);
        x.put(2, 2, 4, 42, 0);
        x.tick(5);
        check.due("get(1, 1)", x.get(1, 1), 0);
        check.due("get(2, 2)", x.get(2, 2), 0);
        check.due("merge()", x.merge(), 0);
        check.due("get(1, 1)", x.get(1, 1), 41);
        check.due("get(2, 2)", x.get(2, 2), 42);
    }

    private static void sameAnswersWhateverIsFlushed() {
        check.part("the same is read whatever was flushed or merged");
        for (int step = 1; step <= 12; step++) {
            WideStore whole = new WideStore(20, 50);
            WideStore cut = new WideStore(20, 50);
            for (int i = 0; i < 40; i++) {
                addOne(whole, i);
                addOne(cut, i);
                if (i % step == 0) {
                    cut.flush();
                }
                if (i % (2 * step) == 0) {
                    cut.merge();
                }
            }
            for (int place = 0; place < 128; place++) {
                check.due("get of place " + place, cut.get(place / 8, place % 8), whole.get(place / 8, place % 8));
            }
        }
    }

    private static void addOne(WideStore x, int i) {
        int row = i * 7 % 3;
        int stamp = i * 11 % 13;
        if (i % 5 == 4) {
            x.wipe(row, i % 4, 4 + i % 3, stamp);
        } else if (i % 5 == 2) {
            x.delete(row, i % 8, stamp);
        } else {
            x.put(row, i * 3 % 8, stamp, i + 1, 0);
        }
    }
}
