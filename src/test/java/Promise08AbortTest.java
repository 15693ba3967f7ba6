public final class Promise08AbortTest {
    public static void main(String[] args) {
        undoesFromTheLastBack();
        undoesWithoutUpdates();
        leavesOthersAlone();
        leavesWhatIsOver();
        tellsWhatTheNumberWas();
        bringsThePages();
        needsNoPins();
        isFullAndGoesOnLater();
        isFullAtOnce();
        refuses();
        Run.finish();
    }

    private static void undoesFromTheLastBack() {
        new Run("back from the last", 2)
                .call("begin").call("fetch", 3).call("fetch", 4)
                .call("set", 0, 3, 1, 8).call("set", 0, 4, 1, 9).call("set", 0, 3, 1, 10)
                .due(3, "abort", 0)
                .log(4, 1, 0, 3, 1, 10, 8, 3)
                .log(5, 1, 0, 4, 1, 9, 0, 2)
                .log(6, 1, 0, 3, 1, 8, 0, 1)
                .log(7, 3, 0, Run.NONE, Run.NONE, Run.NONE, Run.NONE, Run.NONE)
                .due(7, "count", 0)
                .due(0, "count", 1)
                .due(0, "count", 2)
                .frame(0, 3, 1, 1, 1, 6)
                .frame(1, 4, 1, 1, 1, 5)
                .due(0, "get", 3, 1)
                .due(0, "get", 4, 1)
                .due(0, "count", 7)
                .state("abort", 0);
    }

    private static void undoesWithoutUpdates() {
        new Run("nothing done", 2)
                .call("begin")
                .due(0, "abort", 0)
                .log(1, 3, 0, Run.NONE, Run.NONE, Run.NONE, Run.NONE, Run.NONE)
                .due(0, "count", 1)
                .due(0, "count", 2)
                .due(0, "count", 5);
    }

    private static void leavesOthersAlone() {
        new Run("two transactions", 2)
                .call("begin").call("begin").call("fetch", 3)
                .call("set", 0, 3, 0, 5).call("set", 1, 3, 1, 6).call("set", 0, 3, 2, 7)
                .due(2, "abort", 0)
                .due(0, "get", 3, 0).due(6, "get", 3, 1).due(0, "get", 3, 2)
                .due(1, "count", 2)
                .due(7, "set", 1, 3, 1, 8)
                .due(2, "abort", 1)
                .due(0, "get", 3, 1);
    }

    private static void leavesWhatIsOver() {
        new Run("the same number again", 2)
                .call("begin").call("fetch", 3).call("set", 0, 3, 0, 5)
                .due(2, "commit", 0)
                .call("begin").call("set", 0, 3, 0, 6)
                .due(1, "abort", 0)
                .log(4, 1, 0, 3, 0, 6, 5, 3)
                .due(5, "get", 3, 0)
                .call("begin").call("set", 0, 3, 0, 7)
                .due(1, "abort", 0)
                .due(5, "get", 3, 0)
                .call("begin")
                .due(0, "abort", 0);
    }

    // Another transaction wrote the number since: it was that, and becomes what it was before.
    private static void tellsWhatTheNumberWas() {
        new Run("written by another since", 2)
                .call("begin").call("begin").call("fetch", 3)
                .call("set", 0, 3, 0, 5).call("set", 1, 3, 0, 6)
                .due(1, "abort", 0)
                .log(3, 1, 0, 3, 0, 6, 0, 1)
                .due(0, "get", 3, 0)
                .due(1, "abort", 1)
                .log(5, 1, 1, 3, 0, 0, 5, 2)
                .due(5, "get", 3, 0);
    }

    private static void bringsThePages() {
        new Run("brought again", 1)
                .call("begin").call("fetch", 3).call("set", 0, 3, 0, 5).call("release", 3)
                .call("flush", 1).call("fetch", 4).call("release", 4)
                .due(5, "disk", 3, 0)
                .due(1, "abort", 0)
                .frame(0, 3, 0, 1, 1, 2)
                .due(5, "disk", 3, 0)
                .due(3, "count", 5)
                .due(1, "count", 4)
                .due(0, "fetch", 3)
                .due(0, "get", 3, 0);
        new Run("marked again", 2)
                .call("begin").call("fetch", 3).call("set", 0, 3, 0, 5).call("release", 3)
                .call("flush", 1).call("fetch", 4).call("release", 4)
                .due(0, "fetch", 5).call("release", 5)
                .frame(1, 4, 0, 0, 0, 0)
                .due(1, "abort", 0)
                .frame(1, 3, 0, 1, 1, 2)
                .frame(0, 5, 0, 0, 1, 0);
        new Run("a page that is there is marked", 2)
                .call("begin").call("begin").call("fetch", 4).call("set", 0, 4, 0, 5).call("flush", 1)
                .call("release", 4)
                .call("fetch", 5).call("set", 1, 5, 0, 6).call("release", 5)
                .call("flush", 2)
                .call("fetch", 6).call("release", 6)
                .frame(1, 5, 0, 1, 0, 2)
                .due(1, "abort", 1)
                .frame(1, 5, 0, 1, 1, 3);
    }

    private static void needsNoPins() {
        new Run("no pins", 2)
                .call("begin").call("fetch", 3).call("set", 0, 3, 0, 5).call("release", 3)
                .due(1, "abort", 0)
                .frame(0, 3, 0, 1, 1, 2);
    }

    private static void isFullAndGoesOnLater() {
        new Run("half undone", 1)
                .call("begin").call("fetch", 3).call("set", 0, 3, 0, 5).call("release", 3)
                .call("flush", 1)
                .call("fetch", 4).call("set", 0, 4, 0, 6).call("set", 0, 4, 0, 7).call("release", 4)
                .due(Run.FULL, "abort", 0)
                .due(5, "count", 0)
                .log(4, 1, 0, 4, 0, 7, 6, 3)
                .log(5, 1, 0, 4, 0, 6, 0, 2)
                .frame(0, 4, 0, 1, 1, 5)
                .due(1, "count", 2)
                .state("commit", 0)
                .state("set", 0, 4, 0, 1)
                .due(Run.FULL, "abort", 0)
                .due(5, "count", 0)
                .due(5, "flush", 5)
                .due(1, "abort", 0)
                .log(6, 1, 0, 3, 0, 5, 0, 1)
                .log(7, 3, 0, Run.NONE, Run.NONE, Run.NONE, Run.NONE, Run.NONE)
                .due(0, "count", 2)
                .state("abort", 0);
    }

    private static void isFullAtOnce() {
        new Run("nothing undone", 1)
                .call("begin").call("fetch", 3).call("set", 0, 3, 0, 5).call("release", 3)
                .call("flush", 1).call("fetch", 4)
                .due(Run.FULL, "abort", 0)
                .due(1, "count", 0)
                .frame(0, 4, 1, 0, 1, 0)
                .state("commit", 0)
                .state("set", 0, 4, 0, 1)
                .call("release", 4)
                .due(1, "abort", 0);
    }

    private static void refuses() {
        new Run("no such transaction", 2)
                .argument("abort", -1)
                .argument("abort", 8)
                .argument("abort", Integer.MIN_VALUE)
                .argument("abort", Integer.MAX_VALUE);
        new Run("not active", 2)
                .state("abort", 0)
                .call("begin")
                .state("abort", 1)
                .call("commit", 0)
                .state("abort", 0)
                .call("begin").call("crash")
                .state("abort", 0);
    }
}
