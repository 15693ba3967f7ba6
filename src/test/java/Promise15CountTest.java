public final class Promise15CountTest {
    public static void main(String[] args) {
        isZeroAtFirst();
        countsEverything();
        countsRecordsAndFlushedAtTheEnds();
        countsActiveOnesFromNoneToEight();
        tellsTheHandAtEachFrame();
        countsWrittenByTheHandAndByClean();
        countsNoPageThatWasNotWritten();
        countsComeEachTimeItComes();
        countsNoPageThatIsThere();
        countsCrashes();
        countsWhatTheLastCrashUndid();
        keepsItsCountsOverACrash();
        refusesOtherCounts();
        Run.finish();
    }

    private static void isZeroAtFirst() {
        Run run = new Run("a new object", 8);
        for (int what = 0; what < 8; what++) {
            run.due(0, "count", what);
        }
    }

    private static void countsEverything() {
        new Run("every count", 2)
                .call("begin").call("begin").call("fetch", 1).call("fetch", 2)
                .call("set", 0, 1, 0, 1).call("set", 1, 2, 0, 2).call("set", 1, 2, 1, 3)
                .call("flush", 2)
                .due(3, "count", 0)
                .due(2, "count", 1)
                .due(2, "count", 2)
                .due(0, "count", 3)
                .due(0, "count", 4)
                .due(2, "count", 5)
                .due(0, "count", 6)
                .due(0, "count", 7)
                .call("clean", 1).call("release", 1).call("fetch", 3)
                .due(1, "count", 3)
                .due(1, "count", 4)
                .due(3, "count", 5)
                .call("release", 2).call("flush", 3).call("fetch", 4)
                .due(0, "count", 3)
                .due(2, "count", 4)
                .due(4, "count", 5)
                .due(0, "crash")
                .due(8, "count", 0)
                .due(8, "count", 1)
                .due(0, "count", 2)
                .due(0, "count", 3)
                .due(2, "count", 4)
                .due(4, "count", 5)
                .due(1, "count", 6)
                .due(3, "count", 7);
    }

    private static void countsRecordsAndFlushedAtTheEnds() {
        new Run("no record, one, and none again", 1)
                .call("begin").due(0, "count", 0).due(0, "count", 1)
                .call("fetch", 0).call("set", 0, 0, 0, 5).due(1, "count", 0).due(0, "count", 1)
                .call("flush", 1).due(1, "count", 1)
                .call("abort", 0).due(3, "count", 0).due(1, "count", 1);
        new Run("all gone", 1)
                .call("begin").call("fetch", 0).call("set", 0, 0, 0, 5)
                .call("crash").due(0, "count", 0).due(0, "count", 1);
    }

    private static void countsActiveOnesFromNoneToEight() {
        Run run = new Run("active ones", 1);
        for (int t = 0; t < 8; t++) {
            run.due(t, "count", 2).due(t, "begin");
        }
        run.due(8, "count", 2).full("begin").due(8, "count", 2);
        for (int t = 0; t < 8; t++) {
            run.call(t % 2 == 0 ? "commit" : "abort", t).due(7 - t, "count", 2);
        }
    }

    private static void tellsTheHandAtEachFrame() {
        Run run = new Run("the hand", 3);
        for (int page = 0; page < 3; page++) {
            run.call("fetch", page).call("release", page).due(0, "count", 3);
        }
        run.call("fetch", 10).due(1, "count", 3)
                .call("fetch", 11).due(2, "count", 3)
                .call("fetch", 12).due(0, "count", 3);
    }

    private static void countsWrittenByTheHandAndByClean() {
        new Run("written", 1)
                .call("begin").call("fetch", 0).call("set", 0, 0, 0, 5).call("flush", 1)
                .due(0, "count", 4)
                .call("clean", 0).due(1, "count", 4)
                .call("set", 0, 0, 0, 6).call("flush", 2).call("release", 0)
                .call("fetch", 1).due(2, "count", 4);
    }

    private static void countsNoPageThatWasNotWritten() {
        new Run("not written", 1)
                .call("begin").call("fetch", 0).call("set", 0, 0, 0, 5)
                .due(0, "clean", 0).due(0, "count", 4)
                .call("commit", 0).due(0, "count", 4)
                .call("clean", 0).due(1, "count", 4)
                .due(0, "clean", 0).due(1, "count", 4)
                .call("release", 0).call("fetch", 1).due(1, "count", 4);
    }

    private static void countsComeEachTimeItComes() {
        new Run("come", 1)
                .due(0, "count", 5)
                .call("fetch", 0).call("release", 0).due(1, "count", 5)
                .call("fetch", 1).call("release", 1).due(2, "count", 5)
                .call("fetch", 0).due(3, "count", 5);
        new Run("come for an abort", 1)
                .call("begin").call("fetch", 0).call("set", 0, 0, 0, 5).call("flush", 1)
                .call("release", 0).call("fetch", 1).call("release", 1).due(2, "count", 5)
                .call("abort", 0).due(3, "count", 5);
    }

    private static void countsNoPageThatIsThere() {
        new Run("is there, or cannot come", 1)
                .call("fetch", 0).call("fetch", 0).due(1, "count", 5)
                .due(Run.FULL, "fetch", 1).due(1, "count", 5)
                .call("disk", 3, 0).call("clean", 3).due(1, "count", 5);
    }

    private static void countsCrashes() {
        new Run("crashes", 1)
                .due(0, "count", 6)
                .call("crash").due(1, "count", 6)
                .call("crash").due(2, "count", 6);
    }

    private static void countsWhatTheLastCrashUndid() {
        new Run("undone by the last crash", 1)
                .call("begin").call("fetch", 0)
                .call("set", 0, 0, 0, 5).call("set", 0, 0, 0, 6).call("flush", 2)
                .due(0, "count", 7)
                .call("crash").due(2, "count", 7)
                .call("begin").call("fetch", 0).call("set", 0, 0, 0, 7)
                .due(2, "count", 7)
                .due(1, "abort", 0)
                .due(2, "count", 7)
                .call("crash").due(0, "count", 7);
    }

    private static void keepsItsCountsOverACrash() {
        new Run("written and come stay", 1)
                .call("begin").call("fetch", 0).call("set", 0, 0, 0, 5).call("flush", 1)
                .call("clean", 0)
                .due(1, "count", 4).due(1, "count", 5)
                .call("crash")
                .due(1, "count", 4).due(1, "count", 5)
                .call("fetch", 0)
                .due(1, "count", 4).due(2, "count", 5);
    }

    private static void refusesOtherCounts() {
        new Run("no such count", 2)
                .argument("count", -1)
                .argument("count", 8)
                .argument("count", Integer.MIN_VALUE)
                .argument("count", Integer.MAX_VALUE);
    }
}
