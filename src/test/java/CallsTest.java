/** An object is used for at most 512 calls: up to the last of them nothing overflows or stops. */
public final class CallsTest {
    public static void main(String[] args) {
        countsAllPins();
        countsAllCrashes();
        countsAllPagesThatCame();
        countsAllPagesWritten();
        countsAllUpdatesUndone();
        changesByTheLastCall();
        Run.finish();
    }

    private static void countsAllPins() {
        Run run = new Run("511 pins", 1);
        for (int i = 0; i < 511; i++) {
            run.due(0, "fetch", 9);
        }
        run.due(510, "release", 9);
    }

    private static void countsAllCrashes() {
        Run run = new Run("511 crashes", 1);
        for (int i = 0; i < 511; i++) {
            run.due(0, "crash");
        }
        run.due(511, "count", 6);
    }

    private static void countsAllPagesThatCame() {
        Run run = new Run("256 pages came", 1).due(0, "fetch", 31);
        for (int i = 0; i < 255; i++) {
            run.call("release", (i + 31) % 32).due(0, "fetch", i % 32);
        }
        run.due(256, "count", 5);
    }

    private static void countsAllPagesWritten() {
        Run run = new Run("169 pages written", 1).call("begin").call("fetch", 0);
        for (int i = 1; i <= 169; i++) {
            run.due(i, "set", 0, 0, 0, i).due(i, "flush", i).due(1, "clean", 0);
        }
        run.due(169, "count", 4);
    }

    private static void countsAllUpdatesUndone() {
        Run run = new Run("199 updates undone", 1).call("begin").call("fetch", 0);
        for (int i = 1; i <= 199; i++) {
            run.due(i, "set", 0, 0, 0, i);
        }
        run.due(199, "flush", 199).due(0, "crash").due(199, "count", 7).due(399, "count", 0);
    }

    private static void changesByTheLastCall() {
        lastCall().due(1, "fetch", 3);
        lastCall().due(10, "set", 0, 7, 7, 5);
        lastCall().due(10, "commit", 0);
        lastCall().due(9, "abort", 0);
        lastCall().due(9, "crash");
        lastCall().due(1, "begin");
    }

    /** A run of 511 calls, with one transaction of nine updates on page 7. */
    private static Run lastCall() {
        Run run = new Run("the 512th call", 2).call("begin").call("fetch", 7);
        for (int i = 1; i <= 9; i++) {
            run.due(i, "set", 0, 7, 1, i);
        }
        for (int i = 12; i <= 511; i++) {
            run.due(9, "get", 7, 1);
        }
        return run;
    }
}
