/** Terms: TRANSACTIONS, and UNDOING one. */
public final class TermsUndoingTest {
    private static final int[] NO_TRANSACTIONS = {-1, 8, Integer.MIN_VALUE, Integer.MAX_VALUE};

    public static void main(String[] args) {
        hasTheFirstAndTheLastTransaction();
        hasNoTransactionBelowOrAbove();
        endsOneThatDidNothing();
        undoesASingleUpdate();
        undoesTheLastUpdateFirst();
        undoesWhatIsJustBehindACommit();
        undoesWhatIsJustBehindAnEnd();
        undoesWhatIsJustBehindTheEndOfACrash();
        leavesAllBeforeTheLastOfManyCommits();
        isNotOverByTheEndOfAnother();
        undoesNothingTwice();
        undoesEveryUpdateOfAFullLog();
        bringsItsPageWithoutPins();
        marksItsPageThatIsInAFrame();
        keepsThePinsOfItsPage();
        takesOutAnotherDirtyPage();
        makesACleanPageDirty();
        givesThePageTheLastUndosLsn();
        isActiveNoLonger();
        Run.finish();
    }

    private static void hasTheFirstAndTheLastTransaction() {
        Run run = new Run("0 and 7", 1).call("fetch", 0);
        for (int t = 0; t < 8; t++) {
            run.due(t, "begin");
        }
        run.due(1, "set", 7, 0, 0, 70).due(2, "set", 0, 0, 1, 1)
                .due(7, "log", 1, 1).due(0, "log", 2, 1)
                .due(3, "commit", 0).due(0, "log", 3, 1)
                .due(1, "abort", 7).due(7, "log", 4, 1).due(7, "log", 5, 1)
                .due(0, "get", 0, 0).due(1, "get", 0, 1)
                .state("abort", 7).state("commit", 0)
                .due(6, "count", 2);
    }

    private static void hasNoTransactionBelowOrAbove() {
        for (int t : NO_TRANSACTIONS) {
            Run run = new Run("no transaction " + t, 1).call("fetch", 0);
            for (int begun = 0; begun < 8; begun++) {
                run.call("begin");
            }
            run.argument("set", t, 0, 0, 1).argument("commit", t).argument("abort", t);
        }
    }

    private static void endsOneThatDidNothing() {
        new Run("nothing to undo", 1)
                .due(0, "begin")
                .due(0, "abort", 0)
                .due(1, "count", 0)
                .log(1, 3, 0, Run.NONE, Run.NONE, Run.NONE, Run.NONE, Run.NONE)
                .due(0, "count", 2)
                .due(0, "count", 1)
                .frame(0, Run.NONE, 0, 0, 0, 0);
    }

    private static void undoesASingleUpdate() {
        new Run("one to undo", 1)
                .call("begin").call("fetch", 6).call("set", 0, 6, 5, 50)
                .due(1, "abort", 0)
                .log(2, 1, 0, 6, 5, 50, 0, 1)
                .log(3, 3, 0, Run.NONE, Run.NONE, Run.NONE, Run.NONE, Run.NONE)
                .due(3, "count", 0)
                .due(0, "get", 6, 5);
    }

    private static void undoesTheLastUpdateFirst() {
        new Run("one number three times", 1)
                .call("begin").call("fetch", 6)
                .call("set", 0, 6, 0, 1).call("set", 0, 6, 0, 2).call("set", 0, 6, 0, 3)
                .due(3, "abort", 0)
                .log(4, 1, 0, 6, 0, 3, 2, 3)
                .log(5, 1, 0, 6, 0, 2, 1, 2)
                .log(6, 1, 0, 6, 0, 1, 0, 1)
                .due(0, "get", 6, 0);
    }

    private static void undoesWhatIsJustBehindACommit() {
        new Run("just before and just behind a COMMIT", 1)
                .call("begin").call("fetch", 6)
                .due(1, "set", 0, 6, 0, 1).due(2, "commit", 0)
                .call("begin")
                .due(3, "set", 0, 6, 0, 2)
                .due(1, "abort", 0)
                .due(1, "get", 6, 0)
                .log(4, 1, 0, 6, 0, 2, 1, 3)
                .log(5, 3, 0);
    }

    private static void undoesWhatIsJustBehindAnEnd() {
        new Run("just behind an END", 1)
                .call("begin").call("fetch", 6)
                .due(1, "set", 0, 6, 0, 1).due(1, "abort", 0)
                .log(3, 3, 0)
                .call("begin")
                .due(4, "set", 0, 6, 0, 2)
                .due(1, "abort", 0)
                .log(5, 1, 0, 6, 0, 2, 0, 4)
                .log(6, 3, 0)
                .due(6, "count", 0);
    }

    private static void undoesWhatIsJustBehindTheEndOfACrash() {
        new Run("just behind the END of a CRASH", 1)
                .call("begin").call("fetch", 6).call("set", 0, 6, 0, 1).call("flush", 1)
                .due(0, "crash")
                .log(3, 3, 0)
                .call("begin").call("fetch", 6)
                .due(4, "set", 0, 6, 1, 2)
                .due(1, "abort", 0)
                .log(5, 1, 0, 6, 1, 2, 0, 4)
                .due(6, "count", 0);
    }

    private static void leavesAllBeforeTheLastOfManyCommits() {
        Run run = new Run("many COMMITs", 1).call("fetch", 6);
        for (int i = 0; i < 5; i++) {
            run.call("begin").due(2 * i + 1, "set", 0, 6, i, 10 + i).due(2 * i + 2, "commit", 0);
        }
        run.call("begin").due(0, "abort", 0).due(11, "count", 0);
        for (int i = 0; i < 5; i++) {
            run.due(10 + i, "get", 6, i);
        }
    }

    private static void isNotOverByTheEndOfAnother() {
        new Run("COMMIT and END of others", 1)
                .call("begin").call("begin").call("begin").call("fetch", 6)
                .call("set", 1, 6, 0, 1)
                .due(2, "commit", 0)
                .due(0, "abort", 2)
                .due(1, "abort", 1)
                .log(4, 1, 1, 6, 0, 1, 0, 1)
                .due(0, "get", 6, 0);
    }

    // The abort is begun, and waits for page 3: what it undid on page 4 is not undone again.
    private static void undoesNothingTwice() {
        new Run("an UNDO tells of it", 1)
                .call("begin").call("fetch", 3).call("set", 0, 3, 0, 5).call("flush", 1)
                .call("release", 3)
                .call("fetch", 4).call("set", 0, 4, 0, 6).call("release", 4)
                .due(Run.FULL, "abort", 0)
                .log(3, 1, 0, 4, 0, 6, 0, 2)
                .due(3, "count", 0)
                .due(3, "flush", 3)
                .due(1, "abort", 0)
                .log(4, 1, 0, 3, 0, 5, 0, 1)
                .log(5, 3, 0)
                .due(5, "count", 0);
    }

    private static void undoesEveryUpdateOfAFullLog() {
        Run run = new Run("199 updates", 1).call("begin").call("fetch", 0);
        for (int i = 1; i <= 199; i++) {
            run.due(i, "set", 0, 0, i % 8, i);
        }
        run.due(199, "abort", 0)
                .log(200, 1, 0, 0, 7, 199, 191, 199)
                .log(398, 1, 0, 0, 1, 1, 0, 1)
                .log(399, 3, 0)
                .due(399, "count", 0);
        for (int k = 0; k < 8; k++) {
            run.due(0, "get", 0, k);
        }
    }

    private static void bringsItsPageWithoutPins() {
        new Run("come from the disk", 2)
                .call("begin").call("fetch", 3).call("set", 0, 3, 0, 5).call("flush", 1)
                .call("release", 3).call("fetch", 4).call("fetch", 5).call("release", 5)
                .due(3, "count", 5)
                .due(1, "abort", 0)
                .frame(0, 3, 0, 1, 1, 2)
                .due(4, "count", 5)
                .due(1, "count", 3);
    }

    private static void marksItsPageThatIsInAFrame() {
        new Run("in a frame, without a mark", 2)
                .call("begin").call("fetch", 4).call("release", 4)
                .call("fetch", 3).call("set", 0, 3, 0, 5).call("release", 3).call("flush", 1)
                .due(0, "fetch", 5)
                .frame(1, 3, 0, 1, 0, 1)
                .due(1, "abort", 0)
                .frame(1, 3, 0, 1, 1, 2)
                .due(3, "count", 5)
                .due(1, "count", 3);
    }

    private static void keepsThePinsOfItsPage() {
        new Run("pinned", 1)
                .call("begin").call("fetch", 3).call("fetch", 3).call("set", 0, 3, 0, 5)
                .due(1, "abort", 0)
                .frame(0, 3, 2, 1, 1, 2);
    }

    private static void takesOutAnotherDirtyPage() {
        new Run("another page is written for it", 1)
                .call("begin").call("begin")
                .call("fetch", 3).call("set", 0, 3, 0, 5).call("release", 3).call("flush", 1)
                .call("fetch", 4).call("set", 1, 4, 0, 6).call("release", 4).call("flush", 2)
                .due(1, "count", 4)
                .due(1, "abort", 0)
                .due(2, "count", 4)
                .disk(4, 6, 0, 0, 0, 0, 0, 0, 0, 2)
                .frame(0, 3, 0, 1, 1, 3);
    }

    private static void makesACleanPageDirty() {
        new Run("clean before", 1)
                .call("begin").call("fetch", 3).call("set", 0, 3, 0, 5).call("flush", 1)
                .due(1, "clean", 3)
                .frame(0, 3, 1, 0, 1, 1)
                .due(1, "abort", 0)
                .frame(0, 3, 1, 1, 1, 2)
                .due(5, "disk", 3, 0);
    }

    // The UNDOs are not flushed, so the page must wait for them.
    private static void givesThePageTheLastUndosLsn() {
        new Run("the page waits for its UNDOs", 1)
                .call("begin").call("fetch", 3).call("set", 0, 3, 0, 5).call("set", 0, 3, 1, 6)
                .call("flush", 2).call("release", 3)
                .due(2, "abort", 0)
                .frame(0, 3, 0, 1, 1, 4)
                .due(3, "flush", 3)
                .full("fetch", 4)
                .due(0, "clean", 3)
                .due(4, "flush", 4)
                .due(0, "fetch", 4)
                .disk(3, 0, 0, 0, 0, 0, 0, 0, 0, 4);
    }

    private static void isActiveNoLonger() {
        new Run("its number is free", 1)
                .due(0, "begin").due(1, "begin")
                .due(0, "abort", 0)
                .due(1, "count", 2)
                .state("abort", 0).state("commit", 0)
                .due(0, "begin")
                .due(2, "begin");
    }
}
