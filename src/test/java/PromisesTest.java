/** One part for each of the promises 1 to 15: ordinary inputs, the edges, wrong inputs. */
public final class PromisesTest {
    private static final Check check = new Check();
    private static final int[] FAR = {Integer.MIN_VALUE, Integer.MAX_VALUE};

    public static void main(String[] args) {
        promise1NewObject();
        promise2Put();
        promise2Refused();
        promise3Delete();
        promise4Wipe();
        promise5Get();
        promise6Stamp();
        promise7Next();
        promise8NextRow();
        promise9Flush();
        promise9Tiers();
        promise10Merge();
        promise11Sync();
        promise12Crash();
        promise13Tick();
        promise14Count();
        promise15Run();
        check.finish();
    }

    private static void counts(WideStore x, int memory, int runs, int log, int safe) {
        check.due("count(0)", x.count(0), memory);
        check.due("count(1)", x.count(1), runs);
        check.due("count(2)", x.count(2), log);
        check.due("count(3)", x.count(3), safe);
    }

    private static void run(WideStore x, int k, int entries, int tier, int wipes) {
        check.due("run(" + k + ", 0)", x.run(k, 0), entries);
        check.due("run(" + k + ", 1)", x.run(k, 1), tier);
        check.due("run(" + k + ", 2)", x.run(k, 2), wipes);
    }

    private static void promise1NewObject() {
        check.part("promise 1");
        check.due("NONE", WideStore.NONE, -1);
        WideStore x = new WideStore(5, 5);
        counts(x, 0, 0, 0, 0);
        check.due("tick(0)", x.tick(0), 0);
        check.due("nextRow(0)", x.nextRow(0), -1);
        check.due("run(0, 0)", x.run(0, 0), -1);
        capIs(Integer.MIN_VALUE, 2);
        capIs(-1, 2);
        capIs(0, 2);
        capIs(1, 2);
        capIs(2, 2);
        capIs(3, 3);
        capIs(11, 11);
        capIs(19, 19);
        capIs(20, 20);
        capIs(21, 20);
        capIs(Integer.MAX_VALUE, 20);
        graceIs(Integer.MIN_VALUE, 0);
        graceIs(-1, 0);
        graceIs(0, 0);
        graceIs(1, 1);
        graceIs(7, 7);
        graceIs(49, 49);
        graceIs(50, 50);
        graceIs(51, 50);
        graceIs(Integer.MAX_VALUE, 50);
    }

    private static void capIs(int cap, int want) {
        WideStore x = new WideStore(cap, 0);
        for (int i = 0; i < want; i++) {
            x.put(i / 8, i % 8, 1, 1, 0);
        }
        check.due("cap " + cap + ", full: count(0)", x.count(0), want);
        x.put(15, 7, 1, 1, 0);
        check.due("cap " + cap + ", one more: count(0)", x.count(0), 0);
        check.due("cap " + cap + ", one more: run(0, 0)", x.run(0, 0), want + 1);
    }

    private static void graceIs(int grace, int want) {
        WideStore x = new WideStore(5, grace);
        x.delete(0, 0, 1);
        x.flush();
        if (want > 0) {
            x.tick(want - 1);
            check.due("grace " + grace + ", a tick before: merge()", x.merge(), 1);
            x.tick(1);
        }
        check.due("grace " + grace + ": merge()", x.merge(), 0);
        x.put(0, 1, 1, 1, 1);
        x.flush();
        check.due("grace " + grace + ", with a cell that has not ended: merge()", x.merge(), 1);
    }

    private static void promise2Put() {
        check.part("promise 2");
        WideStore x = new WideStore(20, 50);
        check.due("put", x.put(0, 0, 0, -7, 0), true);
        check.due("get", x.get(0, 0), -7);
        check.due("stamp", x.stamp(0, 0), 0);
        check.due("put at the far corner", x.put(15, 7, 9999, Integer.MAX_VALUE, 100), true);
        check.due("get", x.get(15, 7), Integer.MAX_VALUE);
        check.due("stamp", x.stamp(15, 7), 9999);
        check.due("put of a loser", x.put(15, 7, 9998, 1, 0), true);
        check.due("get", x.get(15, 7), Integer.MAX_VALUE);
        counts(x, 2, 0, 3, 0);
        x.tick(99);
        check.due("get a tick before the end", x.get(15, 7), Integer.MAX_VALUE);
        x.tick(1);
        check.due("get at the end", x.get(15, 7), 0);
        check.due("stamp at the end", x.stamp(15, 7), -1);
        check.due("put with life 1", x.put(3, 3, 5, 4, 1), true);
        check.due("get", x.get(3, 3), 4);
        x.tick(1);
        check.due("get at the end", x.get(3, 3), 0);
        x.tick(100);
        check.due("get of what never ends", x.get(0, 0), -7);

        x = new WideStore(2, 50);
        x.put(0, 0, 5, 1, 0);
        x.put(0, 1, 5, 1, 0);
        x.put(0, 1, 4, 1, 0);
        counts(x, 2, 0, 3, 0);
        check.due("put beyond cap", x.put(0, 2, 5, 1, 0), true);
        counts(x, 0, 1, 0, 0);
        run(x, 0, 3, 0, 0);

        // An ended cell still wins over one with a lesser stamp.
        x = new WideStore(5, 50);
        x.put(1, 1, 5, 50, 2);
        x.tick(2);
        x.put(1, 1, 4, 40, 0);
        check.due("get", x.get(1, 1), 0);
        x.put(1, 1, 6, 60, 0);
        check.due("get", x.get(1, 1), 60);
    }

    private static void promise2Refused() {
        WideStore x = new WideStore(20, 50);
        int[][] wrong = {{-1, 0, 0, 0}, {16, 0, 0, 0}, {0, -1, 0, 0}, {0, 8, 0, 0}, {0, 0, -1, 0},
            {0, 0, 10000, 0}, {0, 0, 0, -1}, {0, 0, 0, 101}};
        for (int[] w : wrong) {
            check.due("put refused", x.put(w[0], w[1], w[2], 1, w[3]), false);
        }
        for (int far : FAR) {
            check.due("put with a far row", x.put(far, 0, 0, 1, 0), false);
            check.due("put with a far column", x.put(0, far, 0, 1, 0), false);
            check.due("put with a far stamp", x.put(0, 0, far, 1, 0), false);
            check.due("put with a far life", x.put(0, 0, 0, 1, far), false);
        }
        counts(x, 0, 0, 0, 0);
        check.due("nextRow(0)", x.nextRow(0), -1);
    }

    private static void promise3Delete() {
        check.part("promise 3");
        WideStore x = new WideStore(20, 50);
        check.due("delete of nothing", x.delete(2, 3, 5), true);
        counts(x, 1, 0, 1, 0);
        x.put(2, 3, 4, 1, 0);
        check.due("get of a lesser stamp", x.get(2, 3), 0);
        x.put(2, 3, 5, 1, 0);
        check.due("get of the same stamp", x.get(2, 3), 0);
        x.put(2, 3, 6, 1, 0);
        check.due("get of a greater stamp", x.get(2, 3), 1);
        check.due("delete of a lesser stamp", x.delete(2, 3, 5), true);
        check.due("get", x.get(2, 3), 1);
        counts(x, 1, 0, 5, 0);
        check.due("delete of the same stamp", x.delete(2, 3, 6), true);
        check.due("get", x.get(2, 3), 0);
        x.put(2, 2, 1, 8, 0);
        check.due("get beside it", x.get(2, 2), 8);
        check.due("delete at the first place", x.delete(0, 0, 0), true);
        check.due("delete at the last place", x.delete(15, 7, 9999), true);
        counts(x, 4, 0, 9, 0);
        int[][] wrong = {{-1, 0, 0}, {16, 0, 0}, {0, -1, 0}, {0, 8, 0}, {0, 0, -1}, {0, 0, 10000}};
        for (int[] w : wrong) {
            check.due("delete refused", x.delete(w[0], w[1], w[2]), false);
        }
        for (int far : FAR) {
            check.due("delete with a far row", x.delete(far, 0, 0), false);
            check.due("delete with a far column", x.delete(0, far, 0), false);
            check.due("delete with a far stamp", x.delete(0, 0, far), false);
        }
        counts(x, 4, 0, 9, 0);

        x = new WideStore(2, 50);
        x.delete(0, 0, 1);
        x.delete(0, 1, 1);
        counts(x, 2, 0, 2, 0);
        check.due("delete beyond cap", x.delete(0, 2, 1), true);
        counts(x, 0, 1, 0, 0);
        run(x, 0, 3, 0, 0);
    }

    private static void promise4Wipe() {
        check.part("promise 4");
        WideStore x = new WideStore(20, 50);
        for (int column = 0; column < 8; column++) {
            x.put(4, column, column == 3 ? 6 : 5, 10 + column, 0);
        }
        x.put(5, 2, 1, 99, 0);
        check.due("wipe", x.wipe(4, 2, 4, 5), true);
        int[] want = {10, 11, 0, 13, 0, 15, 16, 17};
        for (int column = 0; column < 8; column++) {
            check.due("get(4, " + column + ")", x.get(4, column), want[column]);
        }
        check.due("get of another row", x.get(5, 2), 99);
        counts(x, 10, 0, 10, 0);
        check.due("wipe of the same columns", x.wipe(4, 2, 4, 6), true);
        check.due("get(4, 3)", x.get(4, 3), 0);
        counts(x, 10, 0, 11, 0);
        check.due("wipe with a lesser stamp", x.wipe(4, 2, 4, 1), true);
        check.due("get(4, 3)", x.get(4, 3), 0);
        counts(x, 10, 0, 12, 0);
        check.due("wipe of one column", x.wipe(4, 7, 7, 9), true);
        check.due("get(4, 7)", x.get(4, 7), 0);
        check.due("get(4, 6)", x.get(4, 6), 16);
        check.due("wipe of another pair", x.wipe(4, 2, 3, 0), true);
        check.due("wipe of all of the first row", x.wipe(0, 0, 7, 0), true);
        check.due("wipe in the last row", x.wipe(15, 0, 0, 9999), true);
        counts(x, 14, 0, 16, 0);
        int[][] wrong = {{-1, 0, 0, 0}, {16, 0, 0, 0}, {0, -1, 0, 0}, {0, 0, 8, 0}, {0, 8, 8, 0}, {0, 3, 2, 0},
            {0, 7, 0, 0}, {0, -2, -1, 0}, {0, 0, 0, -1}, {0, 0, 0, 10000}};
        for (int[] w : wrong) {
            check.due("wipe refused", x.wipe(w[0], w[1], w[2], w[3]), false);
        }
        for (int far : FAR) {
            check.due("wipe with a far row", x.wipe(far, 0, 0, 0), false);
            check.due("wipe with a far first", x.wipe(0, far, 0, 0), false);
            check.due("wipe with a far last", x.wipe(0, 0, far, 0), false);
            check.due("wipe with a far stamp", x.wipe(0, 0, 0, far), false);
        }
        counts(x, 14, 0, 16, 0);
        wipeBeforeAndBeyondCap();
        everyPairOfColumns();
    }

    private static void wipeBeforeAndBeyondCap() {
        WideStore x = new WideStore(2, 50);
        x.wipe(1, 0, 3, 5);
        x.put(1, 3, 5, 1, 0);
        check.due("get of what comes after the wipe", x.get(1, 3), 0);
        x.put(1, 3, 6, 2, 0);
        check.due("get of a greater stamp", x.get(1, 3), 2);
        counts(x, 2, 0, 3, 0);
        check.due("wipe beyond cap", x.wipe(1, 0, 2, 1), true);
        counts(x, 0, 1, 0, 0);
        run(x, 0, 3, 0, 2);
    }

    private static void everyPairOfColumns() {
        for (int first = 0; first < 8; first++) {
            for (int last = first; last < 8; last++) {
                WideStore x = new WideStore(20, 50);
                for (int column = 0; column < 8; column++) {
                    x.put(9, column, 1, 1, 0);
                }
                x.wipe(9, first, last, 1);
                for (int column = 0; column < 8; column++) {
                    int want = column >= first && column <= last ? 0 : 1;
                    check.due("wipe(9, " + first + ", " + last + "), get(9, " + column + ")", x.get(9, column), want);
                }
            }
        }
        WideStore x = new WideStore(20, 50);
        int wipes = 0;
        for (int first = 0; first < 5; first++) {
            for (int last = first; last < 5; last++) {
                x.wipe(9, first, last, 1);
                wipes++;
                check.due("different wipes: count(0)", x.count(0), wipes);
            }
        }
    }

    private static void promise5Get() {
        check.part("promise 5");
        WideStore x = new WideStore(20, 50);
        check.due("get of nothing", x.get(1, 1), 0);
        x.put(1, 1, 5, Integer.MIN_VALUE, 0);
        check.due("get from memory", x.get(1, 1), Integer.MIN_VALUE);
        x.flush();
        check.due("get from a run", x.get(1, 1), Integer.MIN_VALUE);
        x.put(1, 1, 4, 44, 0);
        check.due("get, the run wins", x.get(1, 1), Integer.MIN_VALUE);
        x.put(1, 1, 6, 66, 0);
        check.due("get, the memory wins", x.get(1, 1), 66);
        x.flush();
        check.due("get, the newer run wins", x.get(1, 1), 66);
        x.wipe(1, 0, 7, 6);
        check.due("get, a wipe in memory covers", x.get(1, 1), 0);
        x.put(1, 1, 7, 77, 3);
        check.due("get, a greater stamp", x.get(1, 1), 77);
        x.tick(3);
        check.due("get, ended", x.get(1, 1), 0);
        x.put(0, 7, 1, 70, 0);
        x.put(1, 0, 7, 10, 0);
        x.put(15, 7, 1, 157, 0);
        check.due("get(0, 7)", x.get(0, 7), 70);
        int[][] wrong = {{-1, 0}, {16, 0}, {0, 8}, {1, -1}, {16, -1}, {15, 8}, {-1, 8}, {2, -1}, {2, -8}};
        for (int[] w : wrong) {
            check.due("get(" + w[0] + ", " + w[1] + ")", x.get(w[0], w[1]), 0);
        }
        for (int far : FAR) {
            check.due("get of a far row", x.get(far, 0), 0);
            check.due("get of a far column", x.get(0, far), 0);
            check.due("get of a far place", x.get(far, far), 0);
        }

        // A run's wipe covers what is in memory, and an older run's deletion hides a newer run's cell.
        x = new WideStore(20, 50);
        x.wipe(2, 1, 3, 8);
        x.delete(3, 0, 8);
        x.flush();
        x.put(2, 2, 8, 1, 0);
        x.put(2, 4, 8, 2, 0);
        x.put(3, 0, 8, 3, 0);
        check.due("get(2, 2)", x.get(2, 2), 0);
        check.due("get(2, 4)", x.get(2, 4), 2);
        check.due("get(3, 0)", x.get(3, 0), 0);
        x.flush();
        check.due("get(2, 2)", x.get(2, 2), 0);
        check.due("get(2, 4)", x.get(2, 4), 2);
        check.due("get(3, 0)", x.get(3, 0), 0);
    }

    private static void promise6Stamp() {
        check.part("promise 6");
        WideStore x = new WideStore(20, 50);
        check.due("stamp of nothing", x.stamp(1, 1), -1);
        x.put(1, 1, 0, 5, 0);
        check.due("stamp", x.stamp(1, 1), 0);
        x.put(1, 1, 9999, 0, 0);
        check.due("stamp", x.stamp(1, 1), 9999);
        x.flush();
        check.due("stamp from a run", x.stamp(1, 1), 9999);
        x.put(1, 1, 17, 3, 0);
        check.due("stamp, the run wins", x.stamp(1, 1), 9999);
        x.delete(1, 1, 9999);
        check.due("stamp of what is deleted", x.stamp(1, 1), -1);
        x.put(2, 0, 4, 1, 2);
        check.due("stamp", x.stamp(2, 0), 4);
        x.tick(2);
        check.due("stamp of what ended", x.stamp(2, 0), -1);
        x.put(2, 1, 4, 1, 0);
        x.wipe(2, 1, 1, 4);
        check.due("stamp of what is covered", x.stamp(2, 1), -1);
        x.put(2, 7, 4, 1, 0);
        x.put(3, 0, 4, 1, 0);
        int[][] wrong = {{-1, 0}, {16, 0}, {2, 8}, {3, -1}};
        for (int[] w : wrong) {
            check.due("stamp(" + w[0] + ", " + w[1] + ")", x.stamp(w[0], w[1]), -1);
        }
        for (int far : FAR) {
            check.due("stamp of a far row", x.stamp(far, 0), -1);
            check.due("stamp of a far column", x.stamp(0, far), -1);
        }
    }

    private static void promise7Next() {
        check.part("promise 7");
        WideStore x = new WideStore(20, 50);
        check.due("next(6, 0) of nothing", x.next(6, 0), -1);
        x.put(6, 0, 1, 0, 0);
        x.put(6, 2, 1, 1, 1);
        x.put(6, 3, 1, 1, 0);
        x.flush();
        x.put(6, 5, 1, 1, 0);
        x.wipe(6, 3, 4, 1);
        x.delete(6, 6, 1);
        x.put(6, 7, 1, 1, 0);
        x.put(7, 1, 1, 1, 0);
        int[] want = {0, 2, 2, 5, 5, 5, 7, 7};
        for (int column = 0; column < 8; column++) {
            check.due("next(6, " + column + ")", x.next(6, column), want[column]);
        }
        x.tick(1);
        check.due("next(6, 1)", x.next(6, 1), 5);
        check.due("next(6, -1)", x.next(6, -1), 0);
        check.due("next(6, 8)", x.next(6, 8), -1);
        check.due("next(7, 0)", x.next(7, 0), 1);
        check.due("next(7, 2)", x.next(7, 2), -1);
        check.due("next(7, -9)", x.next(7, -9), 1);
        check.due("next(5, 0)", x.next(5, 0), -1);
        check.due("next(-1, 0)", x.next(-1, 0), -1);
        check.due("next(16, 0)", x.next(16, 0), -1);
        x.put(0, 4, 1, 1, 0);
        x.put(15, 4, 1, 1, 0);
        check.due("next(0, 0)", x.next(0, 0), 4);
        check.due("next(15, 0)", x.next(15, 0), 4);
        check.due("next(15, far)", x.next(15, Integer.MAX_VALUE), -1);
        check.due("next(15, far below)", x.next(15, Integer.MIN_VALUE), 4);
        for (int far : FAR) {
            check.due("next of a far row", x.next(far, 0), -1);
        }
    }

    private static void promise8NextRow() {
        check.part("promise 8");
        WideStore x = new WideStore(20, 50);
        check.due("nextRow(0) of nothing", x.nextRow(0), -1);
        x.put(3, 7, 1, 0, 0);
        x.flush();
        x.put(9, 0, 1, 1, 4);
        x.delete(1, 1, 1);
        x.put(11, 2, 1, 1, 0);
        x.wipe(11, 2, 2, 1);
        x.put(15, 4, 1, 1, 0);
        for (int row = 0; row < 16; row++) {
            check.due("nextRow(" + row + ")", x.nextRow(row), row <= 3 ? 3 : row <= 9 ? 9 : 15);
        }
        x.tick(4);
        check.due("nextRow(4)", x.nextRow(4), 15);
        check.due("nextRow(-1)", x.nextRow(-1), 3);
        check.due("nextRow(16)", x.nextRow(16), -1);
        check.due("nextRow(far below)", x.nextRow(Integer.MIN_VALUE), 3);
        check.due("nextRow(far)", x.nextRow(Integer.MAX_VALUE), -1);
        x.put(0, 0, 1, 1, 0);
        check.due("nextRow(0)", x.nextRow(0), 0);
        x.delete(15, 4, 1);
        check.due("nextRow(4)", x.nextRow(4), -1);
    }

    private static void promise9Flush() {
        check.part("promise 9");
        WideStore x = new WideStore(20, 50);
        check.due("flush() of nothing", x.flush(), 0);
        counts(x, 0, 0, 0, 0);
        x.put(1, 1, 1, 1, 0);
        x.put(1, 1, 2, 1, 0);
        x.delete(1, 2, 1);
        x.wipe(1, 0, 7, 1);
        x.sync();
        counts(x, 3, 0, 4, 4);
        check.due("flush()", x.flush(), 3);
        counts(x, 0, 1, 0, 0);
        // What is covered stays when it is only flushed.
        run(x, 0, 3, 0, 1);
        check.due("flush() again", x.flush(), 0);
        counts(x, 0, 1, 0, 0);
        check.due("get", x.get(1, 1), 1);
        check.due("crash()", x.crash(), 0);
        check.due("get", x.get(1, 1), 1);
    }

    private static void promise9Tiers() {
        WideStore x = new WideStore(20, 50);
        String[] tiers = {"0", "00", "1", "10", "100", "11", "110", "1100", "2", "20", "200", "21"};
        for (int i = 0; i < tiers.length; i++) {
            x.put(i, 0, 1, i, 0);
            check.due("flush()", x.flush(), 1);
            check.due("count(1)", x.count(1), tiers[i].length());
            for (int k = 0; k < tiers[i].length(); k++) {
                int tier = tiers[i].charAt(k) - '0';
                run(x, k, tier == 2 ? 9 : tier == 1 ? 3 : 1, tier, 0);
            }
        }
        for (int i = 0; i < tiers.length; i++) {
            check.due("get(" + i + ", 0)", x.get(i, 0), i);
        }

        // An addition beyond cap merges as well.
        x = new WideStore(2, 50);
        for (int i = 0; i < 27; i++) {
            x.put(i / 8, i % 8, 1, 1, 0);
        }
        counts(x, 0, 1, 0, 0);
        run(x, 0, 27, 2, 0);

        // A merge of three that are not all the runs leaves nothing out for its age.
        x = new WideStore(20, 0);
        x.put(0, 0, 1, 1, 0);
        x.flush();
        x.merge();
        for (int i = 1; i <= 3; i++) {
            x.put(i, 0, 1, 1, 0);
            x.flush();
        }
        run(x, 0, 3, 1, 0);
        check.due("count(1)", x.count(1), 2);
        x = new WideStore(20, 0);
        for (int i = 0; i < 3; i++) {
            x.put(i, 0, 1, 1, 0);
            x.flush();
        }
        x.delete(0, 0, 2);
        x.flush();
        x.put(1, 1, 1, 1, 1);
        x.wipe(1, 0, 0, 3);
        x.flush();
        x.tick(1);
        x.put(2, 0, 2, 2, 0);
        x.flush();
        check.due("count(1)", x.count(1), 2);
        run(x, 1, 4, 1, 1);
        check.due("get(0, 0)", x.get(0, 0), 0);
        check.due("get(1, 0)", x.get(1, 0), 0);
        check.due("get(2, 0)", x.get(2, 0), 2);
    }

    private static void promise10Merge() {
        check.part("promise 10");
        WideStore x = new WideStore(20, 50);
        check.due("merge() without runs", x.merge(), 0);
        counts(x, 0, 0, 0, 0);
        x.put(0, 0, 1, 1, 0);
        x.sync();
        check.due("merge() without runs", x.merge(), 0);
        counts(x, 1, 0, 1, 1);
        x.wipe(0, 0, 7, 1);
        x.flush();
        run(x, 0, 2, 0, 1);
        x.put(5, 5, 1, 1, 0);
        x.sync();
        check.due("merge() of a single run", x.merge(), 1);
        run(x, 0, 1, 0, 1);
        counts(x, 1, 1, 1, 1);
        x.tick(50);
        check.due("merge() to nothing", x.merge(), 0);
        counts(x, 1, 1, 1, 1);
        run(x, 0, 0, 0, 0);
        check.due("merge() of an empty run", x.merge(), 0);
        counts(x, 1, 1, 1, 1);

        // The greatest of the tiers, and no merging by tiers after it.
        x = new WideStore(20, 50);
        for (int i = 0; i < 5; i++) {
            x.put(i, 0, 1, 1, 0);
            x.flush();
        }
        check.due("count(1)", x.count(1), 3);
        check.due("merge()", x.merge(), 5);
        check.due("count(1)", x.count(1), 1);
        run(x, 0, 5, 1, 0);
        for (int i = 0; i < 6; i++) {
            x.put(i, 1, 1, 1, 0);
            x.flush();
        }
        check.due("count(1)", x.count(1), 1);
        run(x, 0, 11, 2, 0);
        x = new WideStore(20, 50);
        x.put(0, 0, 1, 1, 0);
        x.flush();
        x.put(0, 0, 2, 2, 0);
        x.flush();
        check.due("merge()", x.merge(), 1);
        run(x, 0, 1, 0, 0);
        check.due("get", x.get(0, 0), 2);
    }

    private static void promise11Sync() {
        check.part("promise 11");
        WideStore x = new WideStore(3, 50);
        check.due("sync() of nothing", x.sync(), 0);
        x.put(0, 0, 5, 1, 0);
        x.put(0, 0, 4, 1, 0);
        check.due("sync()", x.sync(), 2);
        check.due("sync() again", x.sync(), 2);
        counts(x, 1, 0, 2, 2);
        x.delete(0, 1, 1);
        counts(x, 2, 0, 3, 2);
        check.due("sync()", x.sync(), 3);
        x.put(16, 0, 0, 0, 0);
        counts(x, 2, 0, 3, 3);
        x.wipe(0, 0, 1, 1);
        x.put(1, 0, 0, 0, 0);
        counts(x, 0, 1, 0, 0);
        check.due("sync() after a flush", x.sync(), 0);
    }

    private static void promise12Crash() {
        check.part("promise 12");
        WideStore x = new WideStore(5, 50);
        check.due("crash() of nothing", x.crash(), 0);
        x.put(0, 0, 5, 50, 10);
        x.tick(4);
        x.put(0, 0, 4, 40, 0);
        x.delete(0, 1, 3);
        x.sync();
        x.put(0, 0, 9, 90, 0);
        x.put(0, 1, 9, 91, 0);
        x.wipe(0, 2, 3, 9);
        counts(x, 3, 0, 6, 3);
        x.tick(3);
        check.due("crash()", x.crash(), 3);
        counts(x, 2, 0, 3, 3);
        check.due("get(0, 0)", x.get(0, 0), 50);
        check.due("get(0, 1)", x.get(0, 1), 0);
        // What is added again ends, and was made, when it did before.
        x.tick(2);
        check.due("get(0, 0)", x.get(0, 0), 50);
        x.tick(1);
        check.due("get(0, 0)", x.get(0, 0), 0);
        check.due("crash() again", x.crash(), 3);
        x.put(7, 7, 1, 1, 0);
        counts(x, 3, 0, 4, 3);
        check.due("sync()", x.sync(), 4);
        check.due("flush()", x.flush(), 3);
        check.due("crash() after a flush", x.crash(), 0);
        counts(x, 0, 1, 0, 0);
        check.due("get(7, 7)", x.get(7, 7), 1);

        // Nothing safe: all is lost, the runs stay.
        x.put(7, 7, 2, 2, 0);
        x.wipe(7, 0, 7, 3);
        check.due("get(7, 7)", x.get(7, 7), 0);
        check.due("crash()", x.crash(), 0);
        counts(x, 0, 1, 0, 0);
        check.due("get(7, 7)", x.get(7, 7), 1);

        x.put(7, 6, 2, 2, 0);
        x.flush();
        run(x, 1, 1, 0, 0);

        // The tick when a deletion was made is kept, and a full memory is not flushed.
        x = new WideStore(2, 6);
        x.delete(1, 1, 1);
        x.wipe(1, 2, 3, 1);
        x.sync();
        x.tick(5);
        check.due("crash()", x.crash(), 2);
        counts(x, 2, 0, 2, 2);
        x.flush();
        check.due("merge()", x.merge(), 2);
        x.tick(1);
        check.due("merge()", x.merge(), 0);
    }

    private static void promise13Tick() {
        check.part("promise 13");
        WideStore x = new WideStore(5, 50);
        check.due("tick(0)", x.tick(0), 0);
        check.due("tick(1)", x.tick(1), 1);
        check.due("tick(100)", x.tick(100), 101);
        check.due("tick(101)", x.tick(101), 101);
        check.due("tick(-1)", x.tick(-1), 101);
        for (int far : FAR) {
            check.due("tick(far)", x.tick(far), 101);
        }
        check.due("tick(99)", x.tick(99), 200);
        x.put(0, 0, 1, 1, 5);
        x.tick(101);
        x.tick(-5);
        check.due("get", x.get(0, 0), 1);
        check.due("tick(5)", x.tick(5), 205);
        check.due("get", x.get(0, 0), 0);
        x.put(0, 0, 2, 2, 0);
        for (int i = 1; i <= 490; i++) {
            check.due("tick(100)", x.tick(100), 205 + 100 * i);
        }
        check.due("get of what never ends", x.get(0, 0), 2);
    }

    private static void promise14Count() {
        check.part("promise 14");
        WideStore x = new WideStore(20, 50);
        x.put(0, 0, 1, 1, 0);
        x.flush();
        x.put(0, 0, 1, 1, 0);
        x.put(0, 0, 2, 1, 0);
        x.sync();
        x.delete(0, 1, 1);
        x.wipe(0, 0, 0, 1);
        counts(x, 3, 1, 4, 2);
        check.due("count(4)", x.count(4), -1);
        check.due("count(-1)", x.count(-1), -1);
        for (int far : FAR) {
            check.due("count(far)", x.count(far), -1);
        }
        counts(x, 3, 1, 4, 2);
    }

    private static void promise15Run() {
        check.part("promise 15");
        WideStore x = new WideStore(20, 50);
        for (int what = -1; what <= 3; what++) {
            check.due("run(0, " + what + ") without runs", x.run(0, what), -1);
        }
        for (int i = 0; i < 3; i++) {
            x.put(i, 0, 1, 1, 0);
            x.flush();
        }
        x.put(9, 0, 1, 1, 0);
        x.wipe(9, 0, 1, 0);
        x.wipe(9, 0, 2, 0);
        x.delete(9, 1, 1);
        x.flush();
        x.wipe(9, 0, 1, 1);
        run(x, 0, 3, 1, 0);
        run(x, 1, 4, 0, 2);
        for (int what = 0; what < 3; what++) {
            check.due("run(2, what)", x.run(2, what), -1);
            check.due("run(-1, what)", x.run(-1, what), -1);
            for (int far : FAR) {
                check.due("run(far, what)", x.run(far, what), -1);
            }
        }
        check.due("run(0, 3)", x.run(0, 3), -1);
        check.due("run(0, -1)", x.run(0, -1), -1);
        for (int far : FAR) {
            check.due("run(1, far)", x.run(1, far), -1);
        }
    }
}
