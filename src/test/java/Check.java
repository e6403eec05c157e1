/** What the tests share: it counts the answers that are not the ones that are due. */
final class Check {
    private int wrong = 0;
    private int looked = 0;
    private String part = "";

    void part(String name) {
        part = name;
    }

    void due(String call, int got, int want) {
        looked++;
        if (got != want) {
            wrong++;
            System.out.println(part + ": " + call + " answered " + got + ", due is " + want);
        }
    }

    void due(String call, boolean got, boolean want) {
        due(call, got ? 1 : 0, want ? 1 : 0);
    }

    int wrong() {
        return wrong;
    }

    void finish() {
        System.out.println(wrong == 0 ? looked + " answers are as due" : wrong + " answers are not as due");
        if (wrong != 0) {
            System.exit(1);
        }
    }
}
