public final class Promise08AbortTest {
    public static void main(String[] args) {
        undoesFromTheLastBack();
        undoesWithoutUpdates();
        leavesOthersAlone();
        leavesWhatIsOver();
        tellsWhatTheNumberWas();
        bringsThePages();
        needsNoPins();
        isFullAndGoesOnLater();
        isFullAtOnce();
        isFullAgainAndAgain();
        countsOnlyWhatIsUndoneNow();
        staysBegunAndActiveWhenFull();
        isBegunNoLongerOnceItEnds();
        leavesOthersToGoOnWhenFull();
        leavesTheHandAndTheFramesWhenFull();
        undoesOnePageAndWaitsForTheNext();
        fitsIntoAFullLog();
        flushesNothing();
        refusesOtherTransactions();
        refusesOneThatIsNotActive();
        Run.finish();
    }

    private static void undoesFromTheLastBack() {
        new Run("back from the last", 2)
                .call("begin").call("fetch", 3).call("fetch", 4)
                .call("set", 0, 3, 1, 8).call("set", 0, 4, 1, 9).call("set", 0, 3, 1, 10)
                .due(3, "abort", 0)
                .log(4, 1, 0, 3, 1, 10, 8, 3)
                .log(5, 1, 0, 4, 1, 9, 0, 2)
                .log(6, 1, 0, 3, 1, 8, 0, 1)
                .log(7, 3, 0, Run.NONE, Run.NONE, Run.NONE, Run.NONE, Run.NONE)
                .due(7, "count", 0)
                .due(0, "count", 1)
                .due(0, "count", 2)
                .frame(0, 3, 1, 1, 1, 6)
                .frame(1, 4, 1, 1, 1, 5)
                .due(0, "get", 3, 1)
                .due(0, "get", 4, 1)
                .due(0, "count", 7)
                .state("abort", 0);
    }

    private static void undoesWithoutUpdates() {
        new Run("nothing done", 2)
                .call("begin")
                .due(0, "abort", 0)
                .log(1, 3, 0, Run.NONE, Run.NONE, Run.NONE, Run.NONE, Run.NONE)
                .due(0, "count", 1)
                .due(0, "count", 2)
                .due(0, "count", 5);
    }

    private static void leavesOthersAlone() {
        new Run("two transactions", 2)
                .call("begin").call("begin").call("fetch", 3)
                .call("set", 0, 3, 0, 5).call("set", 1, 3, 1, 6).call("set", 0, 3, 2, 7)
                .due(2, "abort", 0)
                .due(0, "get", 3, 0).due(6, "get", 3, 1).due(0, "get", 3, 2)
                .due(1, "count", 2)
                .due(7, "set", 1, 3, 1, 8)
                .due(2, "abort", 1)
                .due(0, "get", 3, 1);
    }

    private static void leavesWhatIsOver() {
        new Run("the same number again", 2)
                .call("begin").call("fetch", 3).call("set", 0, 3, 0, 5)
                .due(2, "commit", 0)
                .call("begin").call("set", 0, 3, 0, 6)
                .due(1, "abort", 0)
                .log(4, 1, 0, 3, 0, 6, 5, 3)
                .due(5, "get", 3, 0)
                .call("begin").call("set", 0, 3, 0, 7)
                .due(1, "abort", 0)
                .due(5, "get", 3, 0)
                .call("begin")
                .due(0, "abort", 0);
    }

    // Another transaction wrote the number since: it was that, and becomes what it was before.
    private static void tellsWhatTheNumberWas() {
        new Run("written by another since", 2)
                .call("begin").call("begin").call("fetch", 3)
                .call("set", 0, 3, 0, 5).call("set", 1, 3, 0, 6)
                .due(1, "abort", 0)
                .log(3, 1, 0, 3, 0, 6, 0, 1)
                .due(0, "get", 3, 0)
                .due(1, "abort", 1)
                .log(5, 1, 1, 3, 0, 0, 5, 2)
                .due(5, "get", 3, 0);
    }

    private static void bringsThePages() {
        new Run("brought again", 1)
                .call("begin").call("fetch", 3).call("set", 0, 3, 0, 5).call("release", 3)
                .call("flush", 1).call("fetch", 4).call("release", 4)
                .due(5, "disk", 3, 0)
                .due(1, "abort", 0)
                .frame(0, 3, 0, 1, 1, 2)
                .due(5, "disk", 3, 0)
                .due(3, "count", 5)
                .due(1, "count", 4)
                .due(0, "fetch", 3)
                .due(0, "get", 3, 0);
        new Run("marked again", 2)
                .call("begin").call("fetch", 3).call("set", 0, 3, 0, 5).call("release", 3)
                .call("flush", 1).call("fetch", 4).call("release", 4)
                .due(0, "fetch", 5).call("release", 5)
                .frame(1, 4, 0, 0, 0, 0)
                .due(1, "abort", 0)
                .frame(1, 3, 0, 1, 1, 2)
                .frame(0, 5, 0, 0, 1, 0);
        new Run("a page that is there is marked", 2)
                .call("begin").call("begin").call("fetch", 4).call("set", 0, 4, 0, 5).call("flush", 1)
                .call("release", 4)
                .call("fetch", 5).call("set", 1, 5, 0, 6).call("release", 5)
                .call("flush", 2)
                .call("fetch", 6).call("release", 6)
                .frame(1, 5, 0, 1, 0, 2)
                .due(1, "abort", 1)
                .frame(1, 5, 0, 1, 1, 3);
    }

    private static void needsNoPins() {
        new Run("no pins", 2)
                .call("begin").call("fetch", 3).call("set", 0, 3, 0, 5).call("release", 3)
                .due(1, "abort", 0)
                .frame(0, 3, 0, 1, 1, 2);
    }

    private static void isFullAndGoesOnLater() {
        new Run("half undone", 1)
                .call("begin").call("fetch", 3).call("set", 0, 3, 0, 5).call("release", 3)
                .call("flush", 1)
                .call("fetch", 4).call("set", 0, 4, 0, 6).call("set", 0, 4, 0, 7).call("release", 4)
                .due(Run.FULL, "abort", 0)
                .due(5, "count", 0)
                .log(4, 1, 0, 4, 0, 7, 6, 3)
                .log(5, 1, 0, 4, 0, 6, 0, 2)
                .frame(0, 4, 0, 1, 1, 5)
                .due(1, "count", 2)
                .state("commit", 0)
                .state("set", 0, 4, 0, 1)
                .due(Run.FULL, "abort", 0)
                .due(5, "count", 0)
                .due(5, "flush", 5)
                .due(1, "abort", 0)
                .log(6, 1, 0, 3, 0, 5, 0, 1)
                .log(7, 3, 0, Run.NONE, Run.NONE, Run.NONE, Run.NONE, Run.NONE)
                .due(0, "count", 2)
                .state("abort", 0);
    }

    private static void isFullAtOnce() {
        new Run("nothing undone", 1)
                .call("begin").call("fetch", 3).call("set", 0, 3, 0, 5).call("release", 3)
                .call("flush", 1).call("fetch", 4)
                .due(Run.FULL, "abort", 0)
                .due(1, "count", 0)
                .frame(0, 4, 1, 0, 1, 0)
                .state("commit", 0)
                .state("set", 0, 4, 0, 1)
                .call("release", 4)
                .due(1, "abort", 0);
    }

    /** One frame, with page 4 pinned: the abort of 0 cannot bring page 3. */
    private static Run waiting(String title) {
        return new Run(title, 1)
                .call("begin").call("begin").call("fetch", 3)
                .call("set", 0, 3, 0, 5).call("set", 0, 3, 0, 6).call("release", 3).call("flush", 2)
                .call("fetch", 4).call("set", 0, 4, 0, 7)
                .due(Run.FULL, "abort", 0)
                .due(4, "count", 0);
    }

    private static void isFullAgainAndAgain() {
        waiting("still no room").full("abort", 0).full("abort", 0)
                .due(0, "release", 4)
                .full("abort", 0)
                .due(4, "flush", 4)
                .due(2, "abort", 0);
    }

    private static void countsOnlyWhatIsUndoneNow() {
        waiting("one undone before, two now")
                .due(0, "release", 4).due(4, "flush", 4)
                .due(2, "abort", 0)
                .log(5, 1, 0, 3, 0, 6, 5, 2)
                .log(6, 1, 0, 3, 0, 5, 0, 1)
                .log(7, 3, 0)
                .due(7, "count", 0);
    }

    private static void staysBegunAndActiveWhenFull() {
        waiting("begun and active")
                .due(2, "count", 2)
                .state("commit", 0)
                .state("set", 0, 4, 0, 1)
                .due(2, "begin")
                .full("abort", 0);
    }

    private static void isBegunNoLongerOnceItEnds() {
        waiting("ended, its number begins anew")
                .due(0, "release", 4).due(4, "flush", 4)
                .due(2, "abort", 0)
                .due(0, "begin")
                .call("fetch", 3)
                .due(8, "set", 0, 3, 0, 9)
                .due(9, "commit", 0);
    }

    private static void leavesOthersToGoOnWhenFull() {
        waiting("the other one goes on")
                .due(5, "set", 1, 4, 1, 8)
                .due(6, "commit", 1)
                .due(8, "get", 4, 1);
    }

    // The hand stands at 1, so that a hand that was moved or set back would be seen.
    private static void leavesTheHandAndTheFramesWhenFull() {
        new Run("the hand at 1", 2)
                .call("begin").call("fetch", 3).call("set", 0, 3, 0, 5).call("release", 3)
                .call("flush", 1).call("fetch", 4).call("release", 4)
                .due(0, "fetch", 5).due(1, "fetch", 4)
                .due(1, "count", 3)
                .due(Run.FULL, "abort", 0)
                .due(1, "count", 3)
                .frame(0, 5, 1, 0, 1, 0)
                .frame(1, 4, 1, 0, 1, 0)
                .due(1, "count", 0).due(1, "count", 4).due(3, "count", 5)
                .full("abort", 0)
                .due(0, "release", 5)
                .due(1, "abort", 0)
                .due(1, "count", 3)
                .frame(0, 3, 0, 1, 1, 2);
    }

    // Two frames: pages 5 and 4 are undone in theirs, then page 3 finds no room.
    private static void undoesOnePageAndWaitsForTheNext() {
        new Run("two pages undone, one waits", 2)
                .call("begin").call("fetch", 3).call("set", 0, 3, 0, 1).call("release", 3)
                .call("flush", 1)
                .call("fetch", 4).call("fetch", 5)
                .call("set", 0, 4, 0, 2).call("set", 0, 5, 0, 3)
                .due(Run.FULL, "abort", 0)
                .log(4, 1, 0, 5, 0, 3, 0, 3)
                .log(5, 1, 0, 4, 0, 2, 0, 2)
                .due(5, "count", 0)
                .due(0, "get", 4, 0).due(0, "get", 5, 0)
                .due(1, "disk", 3, 0)
                .due(0, "release", 5).due(4, "flush", 4)
                .due(1, "abort", 0)
                .due(7, "count", 0);
    }

    private static void fitsIntoAFullLog() {
        Run run = new Run("a full log", 1).call("begin").call("fetch", 0);
        for (int i = 1; i <= 199; i++) {
            run.due(i, "set", 0, 0, 0, i);
        }
        run.full("set", 0, 0, 0, 5)
                .due(199, "abort", 0)
                .due(399, "count", 0)
                .due(0, "get", 0, 0);
    }

    private static void flushesNothing() {
        new Run("not flushed", 1)
                .call("begin").call("fetch", 3).call("set", 0, 3, 0, 5)
                .due(1, "abort", 0)
                .due(0, "count", 1)
                .due(3, "crash");
    }

    private static void refusesOtherTransactions() {
        new Run("no such transaction", 2)
                .argument("abort", -1)
                .argument("abort", 8)
                .argument("abort", Integer.MIN_VALUE)
                .argument("abort", Integer.MAX_VALUE);
    }

    private static void refusesOneThatIsNotActive() {
        new Run("never begun", 2)
                .state("abort", 0)
                .state("abort", 7)
                .call("begin")
                .state("abort", 1);
        new Run("committed", 2).call("begin").call("commit", 0).state("abort", 0);
        new Run("aborted", 2).call("begin").call("abort", 0).state("abort", 0);
        new Run("behind a crash", 2).call("begin").call("crash").state("abort", 0);
    }
}
