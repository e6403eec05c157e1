/** Long mixed runs of calls, the same ones each time, on WideStore and on PlainModel: every answer must be the same. */
public final class ModelTest {
    private static final int CALLS = 512;
    private static final int RUNS = 1500;
    private static final int[] STRANGE = {Integer.MIN_VALUE, -100, -2, -1, 8, 16, 17, 101, 10000, Integer.MAX_VALUE};

    private static final Check check = new Check();
    private static long state;

    // How much of the space a run uses: few places and stamps let entries meet, many let tables grow.
    private static int rows;
    private static int columns;
    private static int stamps;
    private static int values;
    private static int ticks;
    private static int strangeness;

    public static void main(String[] args) {
        for (int run = 0; run < RUNS && check.wrong() < 20; run++) {
            oneRun(run);
        }
        check.finish();
    }

    private static void oneRun(int number) {
        state = 1000003L * (number + 1);
        rows = pick(1, 2, 4, 16);
        columns = pick(1, 3, 8, 8);
        stamps = pick(2, 5, 30, 10000);
        values = pick(2, 3, 100, 1000);
        ticks = pick(1, 3, 10, 101);
        strangeness = pick(0, 2, 5, 20);
        int cap = below(25) - 1;
        int grace = pick(below(60) - 4, 0, 3, 50);
        WideStore real = new WideStore(cap, grace);
        PlainModel model = new PlainModel(cap, grace);
        int[] weights = pickWeights();
        for (int call = 0; call < CALLS - 60; call++) {
            check.part("run " + number + " (cap " + cap + ", grace " + grace + "), call " + call);
            oneCall(real, model, weighted(weights));
        }
        check.part("run " + number + ", the end");
        for (int k = 0; k < 60; k++) {
            int row = below(rows);
            check.due("get", real.get(row, k % 8), model.get(row, k % 8));
        }
    }

    private static int[] pickWeights() {
        // put, delete, wipe, get, stamp, next, nextRow, flush, merge, sync, crash, tick, count, run
        int[] even = {10, 4, 3, 10, 4, 3, 2, 2, 1, 2, 1, 3, 3, 4};
        int[] deep = {20, 4, 2, 4, 1, 1, 1, 15, 0, 1, 0, 1, 2, 6};
        int[] merging = {10, 4, 4, 6, 1, 1, 1, 3, 5, 1, 1, 5, 2, 4};
        int[] crashing = {10, 4, 3, 6, 1, 1, 1, 1, 1, 6, 5, 2, 6, 1};
        int[] wiping = {8, 3, 12, 6, 1, 4, 2, 2, 2, 1, 1, 2, 2, 4};
        int k = below(5);
        return k == 0 ? even : k == 1 ? deep : k == 2 ? merging : k == 3 ? crashing : wiping;
    }

    private static void oneCall(WideStore real, PlainModel model, int kind) {
        int row = maybeStrange(below(rows));
        int column = maybeStrange(below(columns));
        int stamp = maybeStrange(below(stamps));
        int n = maybeStrange(below(ticks));
        switch (kind) {
            case 0:
                int value = maybeStrange(below(values) - values / 2);
                int life = maybeStrange(below(2) == 0 ? 0 : below(101));
                String put = text("put", row, column, stamp, value, life);
                check.due(put, real.put(row, column, stamp, value, life), model.put(row, column, stamp, value, life));
                break;
            case 1:
                String delete = text("delete", row, column, stamp);
                check.due(delete, real.delete(row, column, stamp), model.delete(row, column, stamp));
                break;
            case 2:
                int last = maybeStrange(below(20) == 0 ? below(8) : Math.min(7, Math.max(0, column) + below(columns)));
                String wipe = text("wipe", row, column, last, stamp);
                check.due(wipe, real.wipe(row, column, last, stamp), model.wipe(row, column, last, stamp));
                break;
            case 3:
                check.due(text("get", row, column), real.get(row, column), model.get(row, column));
                break;
            case 4:
                check.due(text("stamp", row, column), real.stamp(row, column), model.stamp(row, column));
                break;
            case 5:
                check.due(text("next", row, column), real.next(row, column), model.next(row, column));
                break;
            case 6:
                check.due(text("nextRow", row), real.nextRow(row), model.nextRow(row));
                break;
            case 11:
                check.due(text("tick", n), real.tick(n), model.tick(n));
                break;
            default:
                callWithoutPlace(real, model, kind);
        }
    }

    private static void callWithoutPlace(WideStore real, PlainModel model, int kind) {
        int what = maybeStrange(below(4));
        int k = maybeStrange(below(6));
        switch (kind) {
            case 7:
                check.due("flush()", real.flush(), model.flush());
                break;
            case 8:
                check.due("merge()", real.merge(), model.merge());
                break;
            case 9:
                check.due("sync()", real.sync(), model.sync());
                break;
            case 10:
                check.due("crash()", real.crash(), model.crash());
                break;
            case 12:
                check.due(text("count", what), real.count(what), model.count(what));
                break;
            default:
                check.due(text("run", k, what), real.run(k, what), model.run(k, what));
        }
    }

    private static String text(String name, int... arguments) {
        StringBuilder text = new StringBuilder(name).append('(');
        for (int i = 0; i < arguments.length; i++) {
            text.append(i == 0 ? "" : ", ").append(arguments[i]);
        }
        return text.append(')').toString();
    }

    private static int below(int n) {
        state = state * 6364136223846793005L + 1442695040888963407L;
        return (int) Math.floorMod(state >>> 33, (long) n);
    }

    private static int pick(int a, int b, int c, int d) {
        int k = below(4);
        return k == 0 ? a : k == 1 ? b : k == 2 ? c : d;
    }

    private static int weighted(int[] weights) {
        int sum = 0;
        for (int weight : weights) {
            sum += weight;
        }
        int left = below(sum);
        for (int kind = 0; kind < weights.length; kind++) {
            left -= weights[kind];
            if (left < 0) {
                return kind;
            }
        }
        return 0;
    }

    private static int maybeStrange(int ordinary) {
        return below(100) < strangeness ? STRANGE[below(STRANGE.length)] : ordinary;
    }
}
