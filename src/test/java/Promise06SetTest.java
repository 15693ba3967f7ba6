public final class Promise06SetTest {
    public static void main(String[] args) {
        writesTheFrameAndTheLog();
        takesAnyValue();
        makesDirtyAgain();
        fitsWithRoomForAllJustEnough();
        isFullWithOneRecordTooFew();
        countsAnEndForEachActiveOne();
        countsTheUndosOfOthers();
        countsNoUpdatesThatAreCommitted();
        countsWhatAnAbortUndid();
        forgetsWhatACrashTook();
        leavesACleanPageCleanIfFull();
        refusesOtherTransactions();
        refusesOtherPages();
        refusesOtherNumbers();
        letsIllegalArgumentWin();
        refusesOneThatIsNotActive();
        refusesAPageWithoutPins();
        refusesOneWhoseAbortWasBegun();
        fullComesLast();
        Run.finish();
    }

    private static void writesTheFrameAndTheLog() {
        new Run("updates", 2)
                .call("begin").call("begin").call("fetch", 30).call("fetch", 2)
                .due(1, "set", 1, 30, 7, 5)
                .due(2, "set", 0, 30, 7, 6)
                .due(3, "set", 1, 2, 0, 4)
                .log(1, 0, 1, 30, 7, 0, 5, Run.NONE)
                .log(2, 0, 0, 30, 7, 5, 6, Run.NONE)
                .log(3, 0, 1, 2, 0, 0, 4, Run.NONE)
                .frame(0, 30, 1, 1, 1, 2)
                .frame(1, 2, 1, 1, 1, 3)
                .due(6, "get", 30, 7)
                .due(0, "disk", 30, 7)
                .due(0, "disk", 30, 8)
                .due(3, "count", 0)
                .due(0, "count", 1)
                .due(0, "count", 4);
    }

    private static void takesAnyValue() {
        new Run("any value", 1)
                .call("begin").call("fetch", 0)
                .due(1, "set", 0, 0, 0, 0)
                .frame(0, 0, 1, 1, 1, 1)
                .due(2, "set", 0, 0, 0, Integer.MIN_VALUE)
                .due(3, "set", 0, 0, 0, Integer.MAX_VALUE)
                .due(4, "set", 0, 0, 0, Integer.MAX_VALUE)
                .log(3, 0, 0, 0, 0, Integer.MIN_VALUE, Integer.MAX_VALUE, Run.NONE)
                .log(4, 0, 0, 0, 0, Integer.MAX_VALUE, Integer.MAX_VALUE, Run.NONE)
                .due(Integer.MAX_VALUE, "get", 0, 0);
    }

    private static void makesDirtyAgain() {
        new Run("dirty again behind clean", 2)
                .call("begin").call("fetch", 0).call("set", 0, 0, 0, 1).call("flush", 1)
                .due(1, "clean", 0)
                .frame(0, 0, 1, 0, 1, 1)
                .due(2, "set", 0, 0, 0, 1)
                .frame(0, 0, 1, 1, 1, 2);
    }

    // One active: 199 updates, 199 undos, an end, and one more are 400.
    private static void fitsWithRoomForAllJustEnough() {
        Run run = new Run("room for its own undo", 1).call("begin").call("fetch", 0);
        for (int i = 1; i <= 199; i++) {
            run.due(i, "set", 0, 0, i & 7, i);
        }
        run.full("set", 0, 0, 0, 5)
                .full("begin")
                .due(199, "abort", 0)
                .due(399, "count", 0)
                .full("begin");
        for (int k = 0; k < 8; k++) {
            run.due(0, "get", 0, k);
        }
        run.due(399, "crash").due(0, "count", 0).due(0, "begin");
    }

    // Two active: 198 updates and undos, two ends, and one more are 399; 199 would be 401.
    private static void isFullWithOneRecordTooFew() {
        Run run = new Run("one record too few", 1).call("begin").call("begin").call("fetch", 0);
        for (int i = 1; i <= 198; i++) {
            run.due(i, "set", 0, 0, 0, i);
        }
        run.full("set", 0, 0, 0, 5)
                .full("set", 1, 0, 0, 5)
                .due(199, "commit", 1)
                .full("set", 0, 0, 0, 5);
    }

    // Eight active: 195 updates and undos, eight ends, and one more are 399; 196 would be 401.
    private static void countsAnEndForEachActiveOne() {
        Run run = new Run("room for all active ones", 1).call("fetch", 0);
        for (int t = 0; t < 8; t++) {
            run.due(t, "begin");
        }
        for (int i = 1; i <= 195; i++) {
            run.due(i, "set", i & 7, 0, i & 7, i);
        }
        run.full("set", 3, 0, 0, 5)
                .argument("set", 8, 0, 0, 5)
                .due(196, "commit", 7)
                .due(197, "set", 3, 0, 0, 5)
                .due(196, "flush", 196)
                .due(1, "crash")
                .due(171, "count", 7)
                .due(196 + 171 + 7, "count", 0);
    }

    // Both have 99 updates: with their undos, two ends, and one more these are 399.
    private static void countsTheUndosOfOthers() {
        Run run = new Run("the others' undos", 1).call("begin").call("begin").call("fetch", 0);
        for (int i = 1; i <= 99; i++) {
            run.due(i, "set", 0, 0, 0, i);
        }
        for (int i = 100; i <= 198; i++) {
            run.due(i, "set", 1, 0, 1, i);
        }
        run.full("set", 1, 0, 1, 5)
                .due(99, "abort", 0)
                .due(298, "count", 0)
                .full("set", 1, 0, 1, 5)
                .due(99, "abort", 1)
                .due(398, "count", 0);
    }

    // 101 records stand behind the commit: 148 updates and undos, an end, and one more make 399.
    private static void countsNoUpdatesThatAreCommitted() {
        Run run = new Run("updates that are committed", 1).call("begin").call("fetch", 0);
        for (int i = 1; i <= 100; i++) {
            run.due(i, "set", 0, 0, 0, i);
        }
        run.due(101, "commit", 0).due(0, "begin");
        for (int i = 102; i <= 249; i++) {
            run.due(i, "set", 0, 0, 0, i);
        }
        run.full("set", 0, 0, 0, 5).due(148, "abort", 0).due(398, "count", 0);
    }

    private static void countsWhatAnAbortUndid() {
        Run run = new Run("undos told already", 2).call("fetch", 0).call("fetch", 1)
                .due(0, "begin").due(1, "begin");
        run.due(1, "set", 0, 1, 0, 9).call("release", 1).call("flush", 1).call("fetch", 2);
        for (int i = 2; i <= 100; i++) {
            run.due(i, "set", 0, 0, 0, i);
        }
        // 99 undos are told by the abort that is begun: 199 stand, one more undo and two ends wait.
        run.due(Run.FULL, "abort", 0).due(199, "count", 0);
        for (int i = 200; i <= 297; i++) {
            run.due(i, "set", 1, 0, 0, i);
        }
        run.full("set", 1, 0, 0, 5)
                .due(98, "abort", 1)
                .call("release", 2)
                .due(1, "abort", 0)
                .due(398, "count", 0)
                .due(0, "begin");
    }

    private static void forgetsWhatACrashTook() {
        Run run = new Run("updates that are gone need no undos", 1).call("begin").call("fetch", 0);
        for (int i = 1; i <= 150; i++) {
            run.due(i, "set", 0, 0, 0, i);
        }
        run.due(150, "crash").due(0, "begin").call("fetch", 0);
        for (int i = 1; i <= 199; i++) {
            run.due(i, "set", 0, 0, 0, i);
        }
        run.full("set", 0, 0, 0, 5);
    }

    private static void leavesACleanPageCleanIfFull() {
        Run run = new Run("FULL leaves a clean page", 2)
                .call("begin").call("fetch", 0).call("fetch", 1);
        for (int i = 1; i <= 199; i++) {
            run.due(i, "set", 0, 0, 0, i);
        }
        run.full("set", 0, 1, 3, 5)
                .frame(1, 1, 1, 0, 1, 0)
                .due(0, "get", 1, 3);
    }

    private static void refusesOtherTransactions() {
        new Run("no such transaction", 2)
                .call("begin").call("fetch", 0)
                .argument("set", -1, 0, 0, 1)
                .argument("set", 8, 0, 0, 1)
                .argument("set", Integer.MIN_VALUE, 0, 0, 1)
                .argument("set", Integer.MAX_VALUE, 0, 0, 1);
    }

    private static void refusesOtherPages() {
        new Run("no such page", 2)
                .call("begin").call("fetch", 0)
                .argument("set", 0, -1, 0, 1)
                .argument("set", 0, 32, 0, 1)
                .argument("set", 0, Integer.MIN_VALUE, 0, 1)
                .argument("set", 0, Integer.MAX_VALUE, 0, 1);
    }

    private static void refusesOtherNumbers() {
        new Run("no such number", 2)
                .call("begin").call("fetch", 0)
                .argument("set", 0, 0, -1, 1)
                .argument("set", 0, 0, 8, 1)
                .argument("set", 0, 0, Integer.MIN_VALUE, 1)
                .argument("set", 0, 0, Integer.MAX_VALUE, 1);
    }

    private static void letsIllegalArgumentWin() {
        new Run("IllegalArgument wins", 2)
                .argument("set", 0, 0, 8, 1)
                .argument("set", 0, 32, 0, 1)
                .argument("set", 8, 0, 0, 1);
    }

    private static void refusesOneThatIsNotActive() {
        new Run("never begun", 2)
                .call("fetch", 0)
                .state("set", 0, 0, 0, 1)
                .state("set", 7, 0, 0, 1)
                .call("begin")
                .state("set", 1, 0, 0, 1);
        new Run("committed", 2)
                .call("fetch", 0).call("begin").call("commit", 0)
                .state("set", 0, 0, 0, 1);
        new Run("aborted", 2)
                .call("fetch", 0).call("begin").call("abort", 0)
                .state("set", 0, 0, 0, 1);
        new Run("behind a crash", 2)
                .call("begin").call("crash").call("fetch", 0)
                .state("set", 0, 0, 0, 1);
    }

    private static void refusesAPageWithoutPins() {
        new Run("no pins", 2)
                .call("begin")
                .state("set", 0, 0, 0, 1)
                .call("fetch", 0).call("release", 0)
                .state("set", 0, 0, 0, 1)
                .call("fetch", 0)
                .due(1, "set", 0, 0, 0, 1);
        new Run("taken out", 1)
                .call("begin").call("fetch", 0).call("release", 0).call("fetch", 1)
                .state("set", 0, 0, 0, 1);
        new Run("a crash took its pins", 1)
                .call("fetch", 0).call("crash").call("begin")
                .state("set", 0, 0, 0, 1);
    }

    private static void refusesOneWhoseAbortWasBegun() {
        new Run("abort begun", 1)
                .call("begin").call("fetch", 0).call("set", 0, 0, 0, 1).call("release", 0)
                .call("flush", 1).call("fetch", 1)
                .due(Run.FULL, "abort", 0)
                .state("set", 0, 1, 0, 1)
                .due(1, "begin")
                .due(2, "set", 1, 1, 0, 1);
    }

    private static void fullComesLast() {
        Run run = new Run("exceptions before FULL", 1).call("begin").call("fetch", 0);
        for (int i = 1; i <= 199; i++) {
            run.call("set", 0, 0, 0, i);
        }
        run.full("set", 0, 0, 0, 5)
                .argument("set", 0, 0, 8, 5)
                .state("set", 1, 0, 0, 5)
                .state("set", 0, 1, 0, 5);
    }
}
