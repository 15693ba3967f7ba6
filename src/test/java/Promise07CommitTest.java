public final class Promise07CommitTest {
    public static void main(String[] args) {
        endsAndFlushes();
        staysBehindACrash();
        goesWithoutUpdates();
        flushesTheRecordsOfOthersToo();
        flushesWhereAllButItselfIsFlushed();
        fitsIntoAFullLog();
        freesItsNumber();
        refusesOtherTransactions();
        refusesOneThatIsNotActive();
        refusesOneWhoseAbortWasBegun();
        Run.finish();
    }

    private static void endsAndFlushes() {
        new Run("commit", 2)
                .call("begin").call("begin").call("fetch", 3)
                .call("set", 0, 3, 1, 8).call("set", 1, 3, 2, 9)
                .due(0, "count", 1)
                .due(3, "commit", 0)
                .log(3, 2, 0, Run.NONE, Run.NONE, Run.NONE, Run.NONE, Run.NONE)
                .due(3, "count", 0)
                .due(3, "count", 1)
                .due(1, "count", 2)
                .frame(0, 3, 1, 1, 1, 2)
                .due(0, "disk", 3, 1)
                .due(0, "count", 4)
                .due(4, "set", 1, 3, 2, 10)
                .due(3, "count", 1)
                .state("commit", 0)
                .due(5, "commit", 1)
                .due(5, "count", 1);
    }

    private static void staysBehindACrash() {
        new Run("committed", 2)
                .call("begin").call("fetch", 3).call("set", 0, 3, 1, 8).call("commit", 0)
                .due(0, "crash")
                .disk(3, 0, 8, 0, 0, 0, 0, 0, 0, 1)
                .due(0, "count", 7)
                .due(2, "count", 0);
    }

    private static void goesWithoutUpdates() {
        new Run("nothing done", 2)
                .call("begin")
                .due(1, "commit", 0)
                .due(1, "count", 1)
                .due(0, "count", 2);
    }

    private static void flushesTheRecordsOfOthersToo() {
        new Run("the others' records", 2)
                .call("begin").call("begin").call("fetch", 3)
                .call("set", 1, 3, 0, 5).call("set", 1, 3, 1, 6)
                .due(3, "commit", 0)
                .due(3, "count", 1)
                .due(1, "clean", 3)
                .due(0, "crash")
                .due(2, "count", 7);
    }

    private static void flushesWhereAllButItselfIsFlushed() {
        new Run("one record to flush", 2)
                .call("begin").call("fetch", 3).call("set", 0, 3, 0, 5)
                .due(1, "flush", 1)
                .due(2, "commit", 0)
                .due(2, "count", 1)
                .due(0, "crash");
    }

    // Where a set is FULL, a commit still has its record.
    private static void fitsIntoAFullLog() {
        Run run = new Run("a full log", 1).call("begin").call("fetch", 0);
        for (int i = 1; i <= 199; i++) {
            run.due(i, "set", 0, 0, 0, i);
        }
        run.full("set", 0, 0, 0, 5)
                .due(200, "commit", 0)
                .due(200, "count", 1)
                .due(0, "begin");
        run = new Run("the last record there can be", 1).call("fetch", 0);
        Promise05BeginTest.fill(run, 398);
        run.due(0, "begin").due(399, "commit", 0).due(399, "count", 1);
    }

    private static void freesItsNumber() {
        new Run("its number is free", 1)
                .due(0, "begin").due(1, "begin")
                .due(1, "commit", 0)
                .due(1, "count", 2)
                .due(0, "begin")
                .due(2, "commit", 0);
    }

    private static void refusesOtherTransactions() {
        new Run("no such transaction", 2)
                .argument("commit", -1)
                .argument("commit", 8)
                .argument("commit", Integer.MIN_VALUE)
                .argument("commit", Integer.MAX_VALUE);
    }

    private static void refusesOneThatIsNotActive() {
        new Run("never begun", 2)
                .state("commit", 0)
                .state("commit", 7)
                .call("begin")
                .state("commit", 1);
        new Run("committed", 2).call("begin").call("commit", 0).state("commit", 0);
        new Run("aborted", 2).call("begin").call("abort", 0).state("commit", 0);
        new Run("behind a crash", 2).call("begin").call("crash").state("commit", 0);
    }

    private static void refusesOneWhoseAbortWasBegun() {
        new Run("abort begun", 1)
                .call("begin").call("fetch", 0).call("set", 0, 0, 0, 1).call("release", 0)
                .call("flush", 1).call("fetch", 1)
                .due(Run.FULL, "abort", 0)
                .state("commit", 0)
                .due(1, "count", 2);
    }
}
