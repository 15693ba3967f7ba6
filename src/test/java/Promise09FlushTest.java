public final class Promise09FlushTest {
    public static void main(String[] args) {
        flushesNothingOfAnEmptyLog();
        flushesNothingUpToZero();
        flushesUpToAnLsn();
        flushesUpToTheLast();
        takesTheLastForOneMore();
        takesTheLastForTheGreatestNumber();
        keepsFlushedForALessLsn();
        keepsFlushedForTheSameLsn();
        leavesWhatComesBehindIt();
        writesNoPage();
        saysWhatACrashLeaves();
        refusesLessThanZero();
        Run.finish();
    }

    private static Run threeUpdates(String title) {
        return new Run(title, 2)
                .call("begin").call("fetch", 1)
                .call("set", 0, 1, 0, 1).call("set", 0, 1, 0, 2).call("set", 0, 1, 0, 3);
    }

    private static void flushesNothingOfAnEmptyLog() {
        new Run("an empty log", 2)
                .due(0, "flush", 0)
                .due(0, "flush", 1)
                .due(0, "flush", 400)
                .due(0, "flush", Integer.MAX_VALUE)
                .due(0, "count", 1);
    }

    private static void flushesNothingUpToZero() {
        threeUpdates("up to 0").due(0, "flush", 0).due(0, "count", 1).due(3, "crash");
    }

    private static void flushesUpToAnLsn() {
        threeUpdates("up to 1").due(1, "flush", 1).due(1, "count", 1).due(3, "count", 0);
        threeUpdates("up to 2").due(2, "flush", 2).due(2, "count", 1);
    }

    private static void flushesUpToTheLast() {
        threeUpdates("up to the last").due(3, "flush", 3).due(3, "count", 1);
    }

    private static void takesTheLastForOneMore() {
        threeUpdates("one more than there are").due(3, "flush", 4).due(3, "count", 1)
                .due(3, "count", 0);
    }

    private static void takesTheLastForTheGreatestNumber() {
        threeUpdates("the greatest number").due(3, "flush", Integer.MAX_VALUE).due(3, "count", 1);
        threeUpdates("400").due(3, "flush", 400).due(3, "count", 1);
        threeUpdates("401").due(3, "flush", 401).due(3, "count", 1);
    }

    private static void keepsFlushedForALessLsn() {
        threeUpdates("less than FLUSHED").due(2, "flush", 2)
                .due(2, "flush", 1)
                .due(2, "flush", 0)
                .due(2, "count", 1)
                .due(1, "crash");
    }

    private static void keepsFlushedForTheSameLsn() {
        threeUpdates("FLUSHED itself").due(2, "flush", 2).due(2, "flush", 2).due(2, "count", 1);
    }

    // FLUSHED stays where it was, though more was asked for before the record came.
    private static void leavesWhatComesBehindIt() {
        threeUpdates("a record behind").due(3, "flush", 400)
                .due(4, "set", 0, 1, 0, 4)
                .due(3, "count", 1)
                .due(3, "flush", 0)
                .due(4, "flush", 4);
    }

    private static void writesNoPage() {
        threeUpdates("no page is written").due(3, "flush", 3)
                .frame(0, 1, 1, 1, 1, 3)
                .disk(1, 0, 0, 0, 0, 0, 0, 0, 0, 0)
                .due(0, "count", 4);
    }

    private static void saysWhatACrashLeaves() {
        threeUpdates("what a crash leaves").due(1, "flush", 1)
                .due(2, "crash")
                .due(3, "count", 1)
                .due(3, "flush", 0);
    }

    private static void refusesLessThanZero() {
        new Run("below 0, an empty log", 2)
                .argument("flush", -1)
                .argument("flush", Integer.MIN_VALUE);
        threeUpdates("below 0")
                .argument("flush", -1)
                .argument("flush", Integer.MIN_VALUE)
                .due(0, "count", 1);
    }
}
