/** Objects at the edge of their 512 calls, and beyond it: there the answers are free, but no call throws. */
public final class LimitsTest {
    private static final Check check = new Check();
    private static final int CALLS = 512;

    public static void main(String[] args) {
        longestLog();
        mostTiers();
        wholeGrid();
        neverThrows();
        check.finish();
    }

    private static void longestLog() {
        check.part("the longest log");
        WideStore x = new WideStore(2, 0);
        for (int i = 1; i <= CALLS - 1; i++) {
            check.due("put number " + i, x.put(0, 0, i, i, 0), true);
        }
        check.due("count(2)", x.count(2), CALLS - 1);

        x = new WideStore(2, 0);
        for (int i = 1; i <= CALLS - 3; i++) {
            x.put(0, 0, i, i, 0);
        }
        check.due("sync()", x.sync(), CALLS - 3);
        check.due("crash()", x.crash(), CALLS - 3);
        check.due("get(0, 0)", x.get(0, 0), CALLS - 3);

        x = new WideStore(2, 0);
        for (int i = 1; i <= CALLS; i++) {
            check.due("put number " + i, x.put(0, 0, i, i, 0), true);
        }
    }

    private static void mostTiers() {
        check.part("the most tiers");
        WideStore x = new WideStore(2, 50);
        for (int i = 0; i < 243; i++) {
            x.put(i % 16, i / 16 % 8, i, i, 0);
            x.flush();
        }
        check.due("count(1)", x.count(1), 1);
        check.due("run(0, 1)", x.run(0, 1), 5);
        check.due("run(0, 0)", x.run(0, 0), 128);
        check.due("get(2, 7)", x.get(2, 7), 242);
        check.due("get(3, 7)", x.get(3, 7), 115);

        x = new WideStore(2, 50);
        for (int i = 0; i < 242; i++) {
            x.put(i % 16, i / 16 % 8, i, i, 0);
            x.flush();
        }
        check.due("count(1)", x.count(1), 10);
        for (int k = 0; k < 10; k++) {
            check.due("run(" + k + ", 1)", x.run(k, 1), 4 - k / 2);
        }
    }

    private static void wholeGrid() {
        check.part("every row and column");
        WideStore x = new WideStore(20, 50);
        for (int place = 0; place < 128; place++) {
            x.put(place / 8, place % 8, place, place + 1, 0);
        }
        for (int place = 0; place < 128; place++) {
            check.due("get of place " + place, x.get(place / 8, place % 8), place + 1);
            check.due("stamp of place " + place, x.stamp(place / 8, place % 8), place);
        }
        x.flush();
        check.due("merge()", x.merge(), 128);
        for (int row = 0; row < 16; row++) {
            x.wipe(row, 0, 7, 9999);
        }
        x.flush();
        check.due("merge()", x.merge(), 16);
        check.due("run(0, 2)", x.run(0, 2), 16);
        check.due("nextRow(0)", x.nextRow(0), -1);
    }

    private static void neverThrows() {
        check.part("far beyond 512 calls");
        int[] far = {Integer.MIN_VALUE, -1, 0, 1, 7, 8, 15, 16, 99, 101, 9999, 10000, Integer.MAX_VALUE};
        WideStore x = new WideStore(20, 50);
        boolean thrown = false;
        try {
            for (int i = 0; i < 5000; i++) {
                x.put(0, 0, 5, 1, 0);
            }
            x.sync();
            x.crash();
            for (int a : far) {
                for (int b : far) {
                    for (int c : far) {
                        x.put(a, b, c, a, b);
                        x.wipe(a, b, c, a);
                        x.delete(a, b, c);
                        x.get(a, b);
                        x.stamp(a, b);
                        x.next(a, b);
                        x.nextRow(a);
                        x.tick(a);
                        x.count(a);
                        x.run(a, b);
                    }
                    x.flush();
                    x.merge();
                }
            }
        } catch (RuntimeException e) {
            e.printStackTrace(System.out);
            thrown = true;
        }
        check.due("a call threw", thrown, false);
    }
}
