public final class Promise11CrashTest {
    public static void main(String[] args) {
        emptiesThePool();
        dropsWhatIsNotFlushed();
        doesAgain();
        doesNothingTwice();
        undoesThoseNotEnded();
        undoesAllTogether();
        goesOnWithAnAbort();
        endsOneThatIsUndoneAlready();
        leavesThoseWithoutRecords();
        tellsWhatTheNumberWas();
        undoesAgainWhatIsForgotten();
        comesAgain();
        hasRoom();
        answersHowManyAreGone();
        Run.finish();
    }

    private static void emptiesThePool() {
        new Run("an empty pool", 2)
                .call("fetch", 1).call("release", 1).call("fetch", 2).call("release", 2)
                .call("fetch", 3)
                .due(1, "count", 3)
                .due(0, "crash")
                .frame(0, Run.NONE, 0, 0, 0, 0)
                .frame(1, Run.NONE, 0, 0, 0, 0)
                .due(0, "count", 3)
                .due(3, "count", 5)
                .due(1, "count", 6)
                .state("get", 3, 0);
        new Run("the LSN of an empty frame", 1)
                .call("begin").call("fetch", 1).call("set", 0, 1, 0, 5).call("commit", 0)
                .due(1, "frame", 0, 4)
                .due(0, "crash")
                .frame(0, Run.NONE, 0, 0, 0, 0);
    }

    private static void dropsWhatIsNotFlushed() {
        new Run("gone", 2)
                .call("begin").call("fetch", 1)
                .call("set", 0, 1, 0, 5).call("set", 0, 1, 1, 6)
                .due(2, "crash")
                .due(0, "count", 0)
                .due(0, "count", 1)
                .due(0, "count", 2)
                .argument("log", 1, 0)
                .disk(1, 0, 0, 0, 0, 0, 0, 0, 0, 0)
                .due(0, "begin").due(0, "fetch", 1)
                .due(1, "set", 0, 1, 0, 7)
                .due(1, "abort", 0);
    }

    private static void doesAgain() {
        new Run("redone", 2)
                .call("begin").call("begin").call("fetch", 1).call("fetch", 2)
                .call("set", 0, 1, 0, 5).call("set", 0, 2, 1, 6).call("set", 0, 1, 0, 7)
                .call("set", 1, 2, 0, 8)
                .due(5, "commit", 0)
                .due(6, "commit", 1)
                .due(0, "crash")
                .disk(1, 7, 0, 0, 0, 0, 0, 0, 0, 3)
                .disk(2, 8, 6, 0, 0, 0, 0, 0, 0, 4)
                .due(6, "count", 0)
                .due(0, "count", 4)
                .due(2, "count", 5);
        new Run("undos are redone", 2)
                .call("begin").call("fetch", 1).call("set", 0, 1, 0, 5).call("flush", 1)
                .due(1, "clean", 1)
                .due(1, "abort", 0)
                .due(3, "flush", 3)
                .due(0, "crash")
                .disk(1, 0, 0, 0, 0, 0, 0, 0, 0, 2)
                .due(0, "count", 7)
                .due(3, "count", 0);
    }

    // The page on the disk is ahead of the first record: only what is above its LSN is done.
    private static void doesNothingTwice() {
        new Run("not behind the disk", 2)
                .call("begin").call("fetch", 1)
                .call("set", 0, 1, 0, 5).call("set", 0, 1, 0, 6).call("flush", 2)
                .due(1, "clean", 1)
                .call("set", 0, 1, 1, 7).call("commit", 0)
                .due(2, "disk", 1, 8)
                .due(0, "crash")
                .disk(1, 6, 7, 0, 0, 0, 0, 0, 0, 3);
    }

    private static void undoesThoseNotEnded() {
        new Run("undone on the disk", 2)
                .call("begin").call("fetch", 1)
                .call("set", 0, 1, 0, 5).call("set", 0, 1, 1, 6).call("set", 0, 1, 2, 7)
                .call("flush", 2)
                .due(1, "crash")
                .log(3, 1, 0, 1, 1, 6, 0, 2)
                .log(4, 1, 0, 1, 0, 5, 0, 1)
                .log(5, 3, 0, Run.NONE, Run.NONE, Run.NONE, Run.NONE, Run.NONE)
                .due(5, "count", 0)
                .due(5, "count", 1)
                .due(0, "count", 2)
                .due(2, "count", 7)
                .due(0, "count", 4)
                .due(1, "count", 5)
                .disk(1, 0, 0, 0, 0, 0, 0, 0, 0, 4)
                .state("commit", 0);
        new Run("the same number, once committed", 2)
                .call("begin").call("fetch", 1).call("set", 0, 1, 0, 5).call("commit", 0)
                .call("begin").call("set", 0, 1, 0, 6).call("flush", 3)
                .due(0, "crash")
                .due(1, "count", 7)
                .log(4, 1, 0, 1, 0, 6, 5, 3)
                .log(5, 3, 0, Run.NONE, Run.NONE, Run.NONE, Run.NONE, Run.NONE)
                .disk(1, 5, 0, 0, 0, 0, 0, 0, 0, 4);
    }

    private static void undoesAllTogether() {
        new Run("three at once", 2)
                .call("begin").call("begin").call("begin").call("begin").call("fetch", 1)
                .call("set", 3, 1, 0, 5).call("set", 1, 1, 0, 6).call("set", 2, 1, 1, 7)
                .call("set", 3, 1, 0, 8)
                .call("commit", 2)
                .due(0, "crash")
                .log(6, 1, 3, 1, 0, 8, 6, 4)
                .log(7, 1, 1, 1, 0, 6, 5, 2)
                .log(8, 1, 3, 1, 0, 5, 0, 1)
                .log(9, 3, 1, Run.NONE, Run.NONE, Run.NONE, Run.NONE, Run.NONE)
                .log(10, 3, 3, Run.NONE, Run.NONE, Run.NONE, Run.NONE, Run.NONE)
                .due(10, "count", 0)
                .due(3, "count", 7)
                .disk(1, 0, 7, 0, 0, 0, 0, 0, 0, 8);
    }

    private static void goesOnWithAnAbort() {
        new Run("an abort half done", 1)
                .call("begin").call("fetch", 3).call("set", 0, 3, 0, 5).call("release", 3)
                .call("flush", 1)
                .call("fetch", 4).call("set", 0, 4, 0, 6).call("release", 4)
                .due(Run.FULL, "abort", 0)
                .due(3, "flush", 3)
                .due(0, "crash")
                .due(1, "count", 7)
                .log(4, 1, 0, 3, 0, 5, 0, 1)
                .log(5, 3, 0, Run.NONE, Run.NONE, Run.NONE, Run.NONE, Run.NONE)
                .due(0, "disk", 3, 0)
                .due(0, "disk", 4, 0)
                .due(4, "disk", 3, 8)
                .due(3, "disk", 4, 8);
    }

    private static void endsOneThatIsUndoneAlready() {
        new Run("its END was gone", 1)
                .call("begin").call("fetch", 3).call("set", 0, 3, 0, 5)
                .due(1, "abort", 0)
                .due(2, "flush", 2)
                .due(1, "crash")
                .due(0, "count", 7)
                .due(3, "count", 0)
                .log(3, 3, 0, Run.NONE, Run.NONE, Run.NONE, Run.NONE, Run.NONE)
                .disk(3, 0, 0, 0, 0, 0, 0, 0, 0, 2);
    }

    private static void leavesThoseWithoutRecords() {
        new Run("no records, or none since the last COMMIT or END", 2)
                .call("begin").call("fetch", 1).call("set", 0, 1, 0, 5).call("commit", 0)
                .call("begin").call("begin")
                .call("commit", 1)
                .call("begin").call("begin")
                .call("abort", 2).call("flush", 9).call("begin")
                .due(4, "count", 0)
                .due(3, "count", 2)
                .due(0, "crash")
                .due(4, "count", 0)
                .due(0, "count", 2)
                .due(0, "count", 7);
    }

    private static void tellsWhatTheNumberWas() {
        new Run("written by another since", 2)
                .call("begin").call("begin").call("fetch", 3)
                .call("set", 0, 3, 0, 5).call("set", 1, 3, 0, 6).call("commit", 1)
                .due(0, "crash")
                .log(4, 1, 0, 3, 0, 6, 0, 1)
                .due(0, "disk", 3, 0);
    }

    // The abort's UNDO and END are gone, so the UPDATE is undone again, under the same LSNs.
    private static void undoesAgainWhatIsForgotten() {
        new Run("an abort that is gone", 2)
                .call("begin").call("fetch", 1).call("set", 0, 1, 0, 5).call("flush", 1)
                .due(1, "abort", 0)
                .due(2, "crash")
                .due(1, "count", 7)
                .log(2, 1, 0, 1, 0, 5, 0, 1)
                .due(0, "crash")
                .due(0, "count", 7)
                .due(3, "count", 0);
        new Run("LSNs are used again", 2)
                .call("begin").call("fetch", 1).call("set", 0, 1, 0, 5)
                .due(1, "abort", 0)
                .due(3, "crash")
                .due(0, "begin").call("fetch", 1)
                .due(1, "set", 0, 1, 0, 6)
                .due(1, "abort", 0)
                .log(2, 1, 0, 1, 0, 6, 0, 1);
    }

    private static void comesAgain() {
        new Run("crash upon crash", 2)
                .due(0, "crash")
                .due(0, "crash")
                .due(2, "count", 6)
                .call("begin").call("fetch", 1).call("set", 0, 1, 0, 5).call("flush", 1)
                .due(0, "crash")
                .due(1, "count", 7)
                .due(0, "crash")
                .due(0, "count", 7)
                .due(4, "count", 6)
                .due(3, "count", 0)
                .disk(1, 0, 0, 0, 0, 0, 0, 0, 0, 2);
    }

    // Eight at once, the log as full as set lets it be: 195 undos and eight ends still fit in.
    private static void hasRoom() {
        Run run = new Run("a full log", 1).call("fetch", 0);
        for (int t = 0; t < 8; t++) {
            run.call("begin");
        }
        for (int i = 1; i <= 195; i++) {
            run.call("set", i & 7, 0, i & 7, i);
        }
        run.call("flush", 400)
                .due(0, "crash")
                .due(195, "count", 7)
                .due(398, "count", 0)
                .log(391, 3, 0)
                .log(398, 3, 7)
                .disk(0, 0, 0, 0, 0, 0, 0, 0, 0, 390)
                .due(0, "begin")
                .due(0, "abort", 0)
                .due(399, "count", 0)
                .full("begin");
    }

    // Of the records of a crash itself, undos and ends, none is counted.
    private static void answersHowManyAreGone() {
        for (int flushed = 0; flushed <= 5; flushed++) {
            new Run("flushed up to " + flushed, 1)
                    .call("begin").call("fetch", 0)
                    .call("set", 0, 0, 0, 1).call("set", 0, 0, 0, 2).call("set", 0, 0, 0, 3)
                    .call("set", 0, 0, 0, 4).call("set", 0, 0, 0, 5)
                    .due(flushed, "flush", flushed)
                    .due(5 - flushed, "crash")
                    .due(flushed, "count", 7)
                    .due(flushed == 0 ? 0 : 2 * flushed + 1, "count", 0);
        }
    }
}
