public final class Promise14LogTest {
    private static final int NONE = Run.NONE;

    public static void main(String[] args) {
        tellsAnUpdate();
        tellsAnUndo();
        tellsACommit();
        tellsAnEnd();
        tellsTheHighestOfEverything();
        tellsValuesThatLookLikeNone();
        tellsTheFirstAndTheLastRecord();
        refusesRecordsOfAnEmptyLog();
        refusesRecordsBelow();
        refusesRecordsAbove();
        refusesRecordsThatAreGone();
        refusesOtherLooks();
        Run.finish();
    }

    private static void tellsAnUpdate() {
        new Run("UPDATE", 1).call("begin").call("fetch", 0).call("set", 0, 0, 0, 4)
                .log(1, 0, 0, 0, 0, 0, 4, NONE);
    }

    private static void tellsAnUndo() {
        new Run("UNDO", 1).call("begin").call("fetch", 0)
                .call("set", 0, 0, 0, 4).call("set", 0, 0, 0, 5).call("abort", 0)
                .log(3, 1, 0, 0, 0, 5, 4, 2)
                .log(4, 1, 0, 0, 0, 4, 0, 1);
    }

    private static void tellsACommit() {
        new Run("COMMIT", 1).call("begin").call("begin").call("commit", 1)
                .log(1, 2, 1, NONE, NONE, NONE, NONE, NONE);
    }

    private static void tellsAnEnd() {
        new Run("END", 1).call("begin").call("begin").call("abort", 1)
                .log(1, 3, 1, NONE, NONE, NONE, NONE, NONE);
    }

    private static void tellsTheHighestOfEverything() {
        Run run = new Run("transaction 7, page 31, number 7", 1).call("fetch", 31);
        for (int t = 0; t < 8; t++) {
            run.call("begin");
        }
        run.call("set", 7, 31, 7, Integer.MAX_VALUE).call("set", 7, 31, 7, Integer.MIN_VALUE)
                .call("abort", 7)
                .log(1, 0, 7, 31, 7, 0, Integer.MAX_VALUE, NONE)
                .log(2, 0, 7, 31, 7, Integer.MAX_VALUE, Integer.MIN_VALUE, NONE)
                .log(3, 1, 7, 31, 7, Integer.MIN_VALUE, Integer.MAX_VALUE, 2)
                .log(4, 1, 7, 31, 7, Integer.MAX_VALUE, 0, 1)
                .log(5, 3, 7, NONE, NONE, NONE, NONE, NONE);
    }

    private static void tellsValuesThatLookLikeNone() {
        new Run("-1 and -2 are values too", 1).call("begin").call("fetch", 0)
                .call("set", 0, 0, 0, -1).call("set", 0, 0, 0, -2).call("abort", 0)
                .log(2, 0, 0, 0, 0, -1, -2, NONE)
                .log(3, 1, 0, 0, 0, -2, -1, 2)
                .due(0, "get", 0, 0);
    }

    private static Run threeRecords(String title) {
        return new Run(title, 1).call("begin").call("fetch", 0)
                .call("set", 0, 0, 0, 4).call("abort", 0).due(3, "count", 0);
    }

    private static void tellsTheFirstAndTheLastRecord() {
        threeRecords("1 and 3").due(0, "log", 1, 0).due(3, "log", 3, 0).due(NONE, "log", 3, 6);
    }

    private static void refusesRecordsOfAnEmptyLog() {
        new Run("an empty log", 1)
                .argument("log", 0, 0)
                .argument("log", 1, 0)
                .argument("log", 400, 0)
                .argument("log", -1, 0);
    }

    private static void refusesRecordsBelow() {
        threeRecords("below 1")
                .argument("log", 0, 0)
                .argument("log", 0, 6)
                .argument("log", -1, 0)
                .argument("log", Integer.MIN_VALUE, 0);
    }

    private static void refusesRecordsAbove() {
        threeRecords("above the last")
                .argument("log", 4, 0)
                .argument("log", 4, 6)
                .argument("log", 400, 0)
                .argument("log", 401, 0)
                .argument("log", Integer.MAX_VALUE, 0);
    }

    private static void refusesRecordsThatAreGone() {
        threeRecords("gone by a crash").call("crash")
                .argument("log", 1, 0)
                .argument("log", 3, 0);
        new Run("the last is gone", 1).call("begin").call("fetch", 0)
                .due(1, "commit", 0).call("begin").due(2, "set", 0, 0, 0, 4)
                .due(0, "log", 2, 0)
                .call("crash")
                .due(2, "log", 1, 0)
                .argument("log", 2, 0);
    }

    private static void refusesOtherLooks() {
        threeRecords("no such look")
                .due(NONE, "log", 1, 6)
                .argument("log", 1, 7)
                .argument("log", 1, -1)
                .argument("log", 3, 7)
                .argument("log", 1, Integer.MIN_VALUE)
                .argument("log", 1, Integer.MAX_VALUE)
                .argument("log", 4, 7)
                .argument("log", 0, -1);
    }
}
