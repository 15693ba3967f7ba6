/** Terms: what a CRASH leaves, does again, and undoes. */
public final class TermsCrashTest {
    public static void main(String[] args) {
        changesNothingOfANewObject();
        emptiesEveryFrame();
        setsTheHandBack();
        losesNoRecordThatIsFlushed();
        losesTheRecordJustAboveFlushed();
        losesEveryRecordIfNoneIsFlushed();
        losesWhatIsOnlyInAFrame();
        doesTheFirstRecordAgain();
        doesAgainWhatIsJustAboveThePage();
        doesUndosAgain();
        doesEachPageByItsOwnLsn();
        leavesCommittedOnes();
        leavesEndedOnes();
        leavesThoseWithoutRecords();
        leavesThoseWhoseRecordsAreGone();
        leavesThoseThatOnlyCommittedBefore();
        undoesWhatIsBehindItsLastCommit();
        undoesWhatTheDiskHasAlready();
        undoesTheRestOfAnAbort();
        endsOneWhoseEndIsGone();
        undoesAgainIfTheUndoIsGone();
        undoesAllTogether();
        endsTheLeastFirst();
        endsAllEight();
        flushesAllRecords();
        leavesNoneActive();
        forgetsThatAnAbortWasBegun();
        doesNothingMoreTheSecondTime();
        fitsIntoAFullLog();
        countsNoPageAsWrittenOrCome();
        Run.finish();
    }

    private static final int[] LAST = {3, 0, Run.NONE, Run.NONE, Run.NONE, Run.NONE, Run.NONE};

    private static Run end(Run run, int lsn, int transaction) {
        int[] due = LAST.clone();
        due[1] = transaction;
        return run.log(lsn, due);
    }

    private static void changesNothingOfANewObject() {
        Run run = new Run("a new object", 2).due(0, "crash");
        for (int what = 0; what < 8; what++) {
            run.due(what == 6 ? 1 : 0, "count", what);
        }
        run.frame(0, Run.NONE, 0, 0, 0, 0).due(0, "begin").due(0, "fetch", 0);
    }

    private static void emptiesEveryFrame() {
        Run run = new Run("eight frames", 8).call("begin");
        for (int i = 0; i < 8; i++) {
            run.call("fetch", i).call("set", 0, i, 0, 5);
        }
        run.call("release", 3).call("flush", 4).call("clean", 1).due(4, "crash");
        for (int i = 0; i < 8; i++) {
            run.frame(i, Run.NONE, 0, 0, 0, 0).state("get", i, 0);
        }
        run.due(0, "fetch", 7).frame(0, 7, 1, 0, 1, 0);
    }

    private static void setsTheHandBack() {
        new Run("the hand", 3)
                .call("fetch", 1).call("release", 1).call("fetch", 2).call("release", 2)
                .call("fetch", 3).call("release", 3).call("fetch", 4).call("fetch", 5)
                .due(2, "count", 3)
                .due(0, "crash")
                .due(0, "count", 3)
                .call("fetch", 1).call("release", 1).call("fetch", 2).call("release", 2)
                .call("fetch", 3).call("release", 3)
                .due(0, "fetch", 4);
    }

    private static void losesNoRecordThatIsFlushed() {
        new Run("all flushed", 1)
                .call("begin").call("fetch", 0).call("set", 0, 0, 0, 5)
                .due(1, "flush", 1)
                .due(0, "crash")
                .log(1, 0, 0, 0, 0, 0, 5, Run.NONE);
    }

    private static void losesTheRecordJustAboveFlushed() {
        new Run("one above FLUSHED", 1)
                .call("begin").call("fetch", 0).call("set", 0, 0, 0, 5).call("flush", 1)
                .call("set", 0, 0, 1, 6)
                .due(1, "crash")
                .log(1, 0, 0, 0, 0, 0, 5, Run.NONE)
                .log(2, 1, 0, 0, 0, 5, 0, 1)
                .disk(0, 0, 0, 0, 0, 0, 0, 0, 0, 2);
    }

    private static void losesEveryRecordIfNoneIsFlushed() {
        new Run("none flushed", 1)
                .call("begin").call("fetch", 0).call("set", 0, 0, 0, 5).call("abort", 0)
                .due(3, "count", 0)
                .due(3, "crash")
                .due(0, "count", 0)
                .due(0, "count", 7)
                .argument("log", 1, 0)
                .disk(0, 0, 0, 0, 0, 0, 0, 0, 0, 0);
    }

    private static void losesWhatIsOnlyInAFrame() {
        new Run("written once, set again since", 1)
                .call("begin").call("fetch", 0).call("set", 0, 0, 0, 5).call("commit", 0)
                .due(1, "clean", 0)
                .call("begin").call("set", 0, 0, 0, 6)
                .due(1, "crash")
                .disk(0, 5, 0, 0, 0, 0, 0, 0, 0, 1)
                .due(2, "count", 0);
    }

    private static void doesTheFirstRecordAgain() {
        new Run("LSN 1 above 0", 1)
                .call("begin").call("fetch", 0).call("set", 0, 0, 0, 5).call("commit", 0)
                .disk(0, 0, 0, 0, 0, 0, 0, 0, 0, 0)
                .due(0, "crash")
                .disk(0, 5, 0, 0, 0, 0, 0, 0, 0, 1);
    }

    private static void doesAgainWhatIsJustAboveThePage() {
        new Run("LSN 2 above 1", 1)
                .call("begin").call("fetch", 0).call("set", 0, 0, 0, 5).call("flush", 1)
                .due(1, "clean", 0)
                .call("set", 0, 0, 1, 6).call("commit", 0)
                .due(0, "crash")
                .disk(0, 5, 6, 0, 0, 0, 0, 0, 0, 2);
    }

    private static void doesUndosAgain() {
        new Run("an UNDO above the page", 1)
                .call("begin").call("fetch", 0).call("set", 0, 0, 0, 5).call("flush", 1)
                .due(1, "clean", 0)
                .due(1, "abort", 0)
                .due(3, "flush", 3)
                .due(0, "crash")
                .disk(0, 0, 0, 0, 0, 0, 0, 0, 0, 2)
                .due(0, "count", 7)
                .due(3, "count", 0);
    }

    // Page 1 was written with LSN 3; page 0 has LSN 0 still, and needs records 1 and 2.
    private static void doesEachPageByItsOwnLsn() {
        new Run("each page by its LSN", 2)
                .call("begin").call("fetch", 0).call("fetch", 1)
                .call("set", 0, 0, 0, 5).call("set", 0, 0, 1, 6).call("set", 0, 1, 0, 7)
                .call("commit", 0)
                .due(1, "clean", 1)
                .due(0, "crash")
                .disk(0, 5, 6, 0, 0, 0, 0, 0, 0, 2)
                .disk(1, 7, 0, 0, 0, 0, 0, 0, 0, 3);
    }

    private static void leavesCommittedOnes() {
        new Run("COMMIT behind its last UPDATE", 1)
                .call("begin").call("fetch", 0).call("set", 0, 0, 0, 5).call("commit", 0)
                .due(0, "crash")
                .due(2, "count", 0)
                .due(0, "count", 7)
                .due(5, "disk", 0, 0);
    }

    private static void leavesEndedOnes() {
        new Run("END behind its last UPDATE", 1)
                .call("begin").call("fetch", 0).call("set", 0, 0, 0, 5).call("abort", 0)
                .call("flush", 3)
                .due(0, "crash")
                .due(3, "count", 0)
                .due(0, "count", 7)
                .due(0, "disk", 0, 0);
    }

    private static void leavesThoseWithoutRecords() {
        new Run("no records", 1)
                .call("begin").call("begin").call("begin")
                .due(0, "crash")
                .due(0, "count", 0)
                .due(0, "count", 2)
                .due(0, "begin");
    }

    private static void leavesThoseWhoseRecordsAreGone() {
        new Run("its records are gone", 1)
                .call("begin").call("begin").call("fetch", 0)
                .due(1, "commit", 0)
                .due(2, "set", 1, 0, 0, 5)
                .due(1, "crash")
                .due(1, "count", 0)
                .due(0, "count", 7);
    }

    private static void leavesThoseThatOnlyCommittedBefore() {
        new Run("a COMMIT and no UPDATE", 1)
                .call("begin").due(1, "commit", 0)
                .call("begin")
                .due(0, "crash")
                .due(1, "count", 0);
        new Run("an END and no UPDATE", 1)
                .call("begin").due(0, "abort", 0).due(1, "flush", 1)
                .call("begin")
                .due(0, "crash")
                .due(1, "count", 0);
    }

    private static void undoesWhatIsBehindItsLastCommit() {
        Run run = new Run("an UPDATE just behind its COMMIT", 1)
                .call("begin").call("fetch", 0).call("set", 0, 0, 0, 5).due(2, "commit", 0)
                .call("begin").due(3, "set", 0, 0, 0, 6).due(3, "flush", 3)
                .due(0, "crash")
                .due(1, "count", 7)
                .log(4, 1, 0, 0, 0, 6, 5, 3);
        end(run, 5, 0)
                .due(5, "count", 0)
                .disk(0, 5, 0, 0, 0, 0, 0, 0, 0, 4);
    }

    private static void undoesWhatTheDiskHasAlready() {
        new Run("written before its transaction ended", 1)
                .call("begin").call("fetch", 0).call("set", 0, 0, 3, 5).call("flush", 1)
                .due(1, "clean", 0)
                .disk(0, 0, 0, 0, 5, 0, 0, 0, 0, 1)
                .due(0, "crash")
                .disk(0, 0, 0, 0, 0, 0, 0, 0, 0, 2)
                .due(1, "count", 7);
    }

    private static Run halfAborted(String title) {
        return new Run(title, 1)
                .call("begin").call("fetch", 3).call("set", 0, 3, 0, 5).call("release", 3)
                .call("flush", 1)
                .call("fetch", 4).call("set", 0, 4, 0, 6).call("release", 4)
                .due(Run.FULL, "abort", 0)
                .due(3, "count", 0);
    }

    private static void undoesTheRestOfAnAbort() {
        Run run = halfAborted("an abort was begun")
                .due(3, "flush", 3)
                .due(0, "crash")
                .due(1, "count", 7)
                .log(4, 1, 0, 3, 0, 5, 0, 1);
        end(run, 5, 0).due(5, "count", 0)
                .due(3, "disk", 4, 8).due(0, "disk", 4, 0)
                .due(4, "disk", 3, 8).due(0, "disk", 3, 0);
    }

    private static void endsOneWhoseEndIsGone() {
        Run run = new Run("all undone, the END is gone", 1)
                .call("begin").call("fetch", 0).call("set", 0, 0, 0, 5)
                .due(1, "abort", 0)
                .due(2, "flush", 2)
                .due(1, "crash")
                .due(0, "count", 7);
        end(run, 3, 0).due(3, "count", 0);
    }

    private static void undoesAgainIfTheUndoIsGone() {
        Run run = halfAborted("the UNDO of an abort is gone")
                .due(2, "flush", 2)
                .due(1, "crash")
                .due(2, "count", 7)
                .log(3, 1, 0, 4, 0, 6, 0, 2)
                .log(4, 1, 0, 3, 0, 5, 0, 1);
        end(run, 5, 0).due(5, "count", 0);
    }

    private static void undoesAllTogether() {
        new Run("from the last UPDATE of all back", 1)
                .call("begin").call("begin").call("fetch", 0)
                .call("set", 0, 0, 0, 1).call("set", 1, 0, 0, 2)
                .call("set", 0, 0, 0, 3).call("set", 1, 0, 0, 4)
                .call("flush", 4)
                .due(0, "crash")
                .log(5, 1, 1, 0, 0, 4, 3, 4)
                .log(6, 1, 0, 0, 0, 3, 2, 3)
                .log(7, 1, 1, 0, 0, 2, 1, 2)
                .log(8, 1, 0, 0, 0, 1, 0, 1)
                .due(4, "count", 7)
                .disk(0, 0, 0, 0, 0, 0, 0, 0, 0, 8);
    }

    private static void endsTheLeastFirst() {
        Run run = new Run("2 began to write before 1, and 1 before 0", 1)
                .call("begin").call("begin").call("begin").call("fetch", 0)
                .call("set", 2, 0, 2, 1).call("set", 1, 0, 1, 2).call("set", 0, 0, 0, 3)
                .call("flush", 3)
                .due(0, "crash")
                .due(0, "log", 4, 1).due(1, "log", 5, 1).due(2, "log", 6, 1);
        end(end(end(run, 7, 0), 8, 1), 9, 2).due(9, "count", 0);
        run = new Run("0 began to write before 1", 1)
                .call("begin").call("begin").call("fetch", 0)
                .call("set", 0, 0, 0, 1).call("set", 1, 0, 1, 2).call("flush", 2)
                .due(0, "crash")
                .due(1, "log", 3, 1).due(0, "log", 4, 1);
        end(end(run, 5, 0), 6, 1).due(6, "count", 0);
    }

    private static void endsAllEight() {
        Run run = new Run("all eight", 1).call("fetch", 0);
        for (int t = 0; t < 8; t++) {
            run.due(t, "begin").due(t + 1, "set", t, 0, t, 5);
        }
        run.due(8, "flush", 8).due(0, "crash").due(8, "count", 7);
        for (int t = 0; t < 8; t++) {
            end(run, 17 + t, t);
        }
        run.due(24, "count", 0).disk(0, 0, 0, 0, 0, 0, 0, 0, 0, 16);
    }

    private static void flushesAllRecords() {
        new Run("all flushed behind it", 1)
                .call("begin").call("fetch", 0).call("set", 0, 0, 0, 5).call("set", 0, 0, 0, 6)
                .call("flush", 1)
                .due(1, "crash")
                .due(3, "count", 0)
                .due(3, "count", 1)
                .due(0, "crash")
                .due(3, "count", 0);
    }

    private static void leavesNoneActive() {
        Run run = new Run("none active", 1);
        for (int t = 0; t < 8; t++) {
            run.due(t, "begin");
        }
        run.due(0, "crash").due(0, "count", 2);
        for (int t = 0; t < 8; t++) {
            run.state("commit", t).state("abort", t);
        }
        for (int t = 0; t < 8; t++) {
            run.due(t, "begin");
        }
        run.full("begin");
    }

    private static void forgetsThatAnAbortWasBegun() {
        halfAborted("begun no longer")
                .state("commit", 0)
                .due(2, "crash")
                .due(0, "begin").due(0, "fetch", 4)
                .due(4, "set", 0, 4, 0, 7)
                .due(5, "commit", 0);
    }

    private static void doesNothingMoreTheSecondTime() {
        new Run("crash upon crash", 1)
                .call("begin").call("fetch", 0).call("set", 0, 0, 0, 5).call("flush", 1)
                .due(0, "crash").due(1, "count", 7).due(3, "count", 0)
                .due(0, "crash").due(0, "count", 7).due(3, "count", 0)
                .due(2, "count", 6)
                .disk(0, 0, 0, 0, 0, 0, 0, 0, 0, 2);
    }

    // Two active: 198 updates, as many undos and two ends are 398, and one record stays free.
    private static void fitsIntoAFullLog() {
        Run run = new Run("a full log", 1).call("begin").call("begin").call("fetch", 0);
        for (int i = 1; i <= 198; i++) {
            run.due(i, "set", i % 2, 0, i % 8, i);
        }
        run.full("set", 0, 0, 0, 1)
                .due(198, "flush", 198)
                .due(0, "crash")
                .due(198, "count", 7)
                .due(398, "count", 0);
        end(end(run, 397, 0), 398, 1).disk(0, 0, 0, 0, 0, 0, 0, 0, 0, 396);
    }

    private static void countsNoPageAsWrittenOrCome() {
        new Run("pages of a CRASH", 2)
                .call("begin").call("begin").call("fetch", 0).call("fetch", 1)
                .call("set", 0, 0, 0, 5).call("set", 1, 1, 0, 6).call("flush", 2)
                .due(1, "clean", 0)
                .call("commit", 0)
                .due(0, "crash")
                .due(1, "count", 4)
                .due(2, "count", 5);
    }
}
