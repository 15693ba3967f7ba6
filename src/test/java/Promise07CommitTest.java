public final class Promise07CommitTest {
    public static void main(String[] args) {
        endsAndFlushes();
        staysBehindACrash();
        goesWithoutUpdates();
        refuses();
        Run.finish();
    }

    private static void endsAndFlushes() {
        new Run("commit", 2)
                .call("begin").call("begin").call("fetch", 3)
                .call("set", 0, 3, 1, 8).call("set", 1, 3, 2, 9)
                .due(0, "count", 1)
                .due(3, "commit", 0)
                .log(3, 2, 0, Run.NONE, Run.NONE, Run.NONE, Run.NONE, Run.NONE)
                .due(3, "count", 0)
                .due(3, "count", 1)
                .due(1, "count", 2)
                .frame(0, 3, 1, 1, 1, 2)
                .due(0, "disk", 3, 1)
                .due(0, "count", 4)
                .due(4, "set", 1, 3, 2, 10)
                .due(3, "count", 1)
                .state("commit", 0)
                .due(5, "commit", 1)
                .due(5, "count", 1);
    }

    private static void staysBehindACrash() {
        new Run("committed", 2)
                .call("begin").call("fetch", 3).call("set", 0, 3, 1, 8).call("commit", 0)
                .due(0, "crash")
                .disk(3, 0, 8, 0, 0, 0, 0, 0, 0, 1)
                .due(0, "count", 7)
                .due(2, "count", 0);
    }

    private static void goesWithoutUpdates() {
        new Run("nothing done", 2)
                .call("begin")
                .due(1, "commit", 0)
                .due(1, "count", 1)
                .due(0, "count", 2);
    }

    private static void refuses() {
        new Run("no such transaction", 2)
                .argument("commit", -1)
                .argument("commit", 8)
                .argument("commit", Integer.MIN_VALUE)
                .argument("commit", Integer.MAX_VALUE);
        new Run("not active", 2)
                .state("commit", 0)
                .state("commit", 7)
                .call("begin")
                .state("commit", 1)
                .call("abort", 0)
                .state("commit", 0)
                .call("begin").call("crash")
                .state("commit", 0);
        new Run("abort begun", 1)
                .call("begin").call("fetch", 0).call("set", 0, 0, 0, 1).call("release", 0)
                .call("flush", 1).call("fetch", 1)
                .due(Run.FULL, "abort", 0)
                .state("commit", 0)
                .due(1, "count", 2);
    }
}
