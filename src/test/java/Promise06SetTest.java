public final class Promise06SetTest {
    public static void main(String[] args) {
        writesTheFrameAndTheLog();
        takesAnyValue();
        makesDirtyAgain();
        isFullWhenTheLogIs();
        keepsRoomForAllActiveOnes();
        countsWhatAnAbortUndid();
        forgetsWhatACrashTook();
        refuses();
        Run.finish();
    }

    private static void writesTheFrameAndTheLog() {
        new Run("updates", 2)
                .call("begin").call("begin").call("fetch", 30).call("fetch", 2)
                .due(1, "set", 1, 30, 7, 5)
                .due(2, "set", 0, 30, 7, 6)
                .due(3, "set", 1, 2, 0, 4)
                .log(1, 0, 1, 30, 7, 0, 5, Run.NONE)
                .log(2, 0, 0, 30, 7, 5, 6, Run.NONE)
                .log(3, 0, 1, 2, 0, 0, 4, Run.NONE)
                .frame(0, 30, 1, 1, 1, 2)
                .frame(1, 2, 1, 1, 1, 3)
                .due(6, "get", 30, 7)
                .due(0, "disk", 30, 7)
                .due(0, "disk", 30, 8)
                .due(3, "count", 0)
                .due(0, "count", 1)
                .due(0, "count", 4);
    }

    private static void takesAnyValue() {
        new Run("any value", 1)
                .call("begin").call("fetch", 0)
                .due(1, "set", 0, 0, 0, 0)
                .frame(0, 0, 1, 1, 1, 1)
                .due(2, "set", 0, 0, 0, Integer.MIN_VALUE)
                .due(3, "set", 0, 0, 0, Integer.MAX_VALUE)
                .due(4, "set", 0, 0, 0, Integer.MAX_VALUE)
                .log(3, 0, 0, 0, 0, Integer.MIN_VALUE, Integer.MAX_VALUE, Run.NONE)
                .log(4, 0, 0, 0, 0, Integer.MAX_VALUE, Integer.MAX_VALUE, Run.NONE)
                .due(Integer.MAX_VALUE, "get", 0, 0);
    }

    private static void makesDirtyAgain() {
        new Run("dirty again behind clean", 2)
                .call("begin").call("fetch", 0).call("set", 0, 0, 0, 1).call("flush", 1)
                .due(1, "clean", 0)
                .frame(0, 0, 1, 0, 1, 1)
                .due(2, "set", 0, 0, 0, 1)
                .frame(0, 0, 1, 1, 1, 2);
    }

    // One active: 199 updates, 199 undos, an end, and one more are 400.
    private static void isFullWhenTheLogIs() {
        Run run = new Run("room for its own undo", 1).call("begin").call("fetch", 0);
        for (int i = 1; i <= 199; i++) {
            run.due(i, "set", 0, 0, i & 7, i);
        }
        run.full("set", 0, 0, 0, 5)
                .full("begin")
                .due(199, "abort", 0)
                .due(399, "count", 0)
                .full("begin");
        for (int k = 0; k < 8; k++) {
            run.due(0, "get", 0, k);
        }
        run.due(399, "crash").due(0, "count", 0).due(0, "begin");
    }

    // Eight active: 195 updates and undos, eight ends, and one more are 399; 196 would be 401.
    private static void keepsRoomForAllActiveOnes() {
        Run run = new Run("room for all active ones", 1).call("fetch", 0);
        for (int t = 0; t < 8; t++) {
            run.due(t, "begin");
        }
        for (int i = 1; i <= 195; i++) {
            run.due(i, "set", i & 7, 0, i & 7, i);
        }
        run.full("set", 3, 0, 0, 5)
                .argument("set", 8, 0, 0, 5)
                .due(196, "commit", 7)
                .due(197, "set", 3, 0, 0, 5)
                .due(196, "flush", 196)
                .due(1, "crash")
                .due(171, "count", 7)
                .due(196 + 171 + 7, "count", 0);
    }

    private static void countsWhatAnAbortUndid() {
        Run run = new Run("undos told already", 2).call("fetch", 0).call("fetch", 1)
                .due(0, "begin").due(1, "begin");
        run.due(1, "set", 0, 1, 0, 9).call("release", 1).call("flush", 1).call("fetch", 2);
        for (int i = 2; i <= 100; i++) {
            run.due(i, "set", 0, 0, 0, i);
        }
        // 99 undos are told by the abort that is begun: 199 stand, one more undo and two ends wait.
        run.due(Run.FULL, "abort", 0).due(199, "count", 0);
        for (int i = 200; i <= 297; i++) {
            run.due(i, "set", 1, 0, 0, i);
        }
        run.full("set", 1, 0, 0, 5)
                .due(98, "abort", 1)
                .call("release", 2)
                .due(1, "abort", 0)
                .due(398, "count", 0)
                .due(0, "begin");
    }

    private static void forgetsWhatACrashTook() {
        Run run = new Run("updates that are gone need no undos", 1).call("begin").call("fetch", 0);
        for (int i = 1; i <= 150; i++) {
            run.due(i, "set", 0, 0, 0, i);
        }
        run.due(150, "crash").due(0, "begin").call("fetch", 0);
        for (int i = 1; i <= 199; i++) {
            run.due(i, "set", 0, 0, 0, i);
        }
        run.full("set", 0, 0, 0, 5);
    }

    private static void refuses() {
        new Run("no such number", 2)
                .call("begin").call("fetch", 0)
                .argument("set", -1, 0, 0, 1)
                .argument("set", 8, 0, 0, 1)
                .argument("set", 0, -1, 0, 1)
                .argument("set", 0, 32, 0, 1)
                .argument("set", 0, 0, -1, 1)
                .argument("set", 0, 0, 8, 1)
                .argument("set", Integer.MAX_VALUE, 0, 0, 1)
                .argument("set", 0, Integer.MIN_VALUE, 0, 1)
                .argument("set", 0, 0, Integer.MAX_VALUE, 1);
        new Run("IllegalArgument wins", 2)
                .argument("set", 0, 0, 8, 1)
                .argument("set", 0, 32, 0, 1)
                .argument("set", 8, 0, 0, 1);
        new Run("not active", 2)
                .call("fetch", 0)
                .state("set", 0, 0, 0, 1)
                .call("begin")
                .state("set", 1, 0, 0, 1)
                .call("commit", 0)
                .state("set", 0, 0, 0, 1);
        new Run("no pins", 2)
                .call("begin")
                .state("set", 0, 0, 0, 1)
                .call("fetch", 0).call("release", 0)
                .state("set", 0, 0, 0, 1)
                .call("fetch", 0)
                .due(1, "set", 0, 0, 0, 1);
        new Run("abort begun", 1)
                .call("begin").call("fetch", 0).call("set", 0, 0, 0, 1).call("release", 0)
                .call("flush", 1).call("fetch", 1)
                .due(Run.FULL, "abort", 0)
                .state("set", 0, 1, 0, 1)
                .due(1, "begin")
                .due(2, "set", 1, 1, 0, 1);
        fullComesLast();
    }

    private static void fullComesLast() {
        Run run = new Run("exceptions before FULL", 1).call("begin").call("fetch", 0);
        for (int i = 1; i <= 199; i++) {
            run.call("set", 0, 0, 0, i);
        }
        run.full("set", 0, 0, 0, 5)
                .argument("set", 0, 0, 8, 5)
                .state("set", 1, 0, 0, 5)
                .state("set", 0, 1, 0, 5);
    }
}
