public final class Promise02FetchTest {
    public static void main(String[] args) {
        takesTheLeastEmptyFrame();
        pinsAPageThatIsInAFrame();
        goesRoundByTheMarks();
        marksAgainWhatIsFetchedAgain();
        passesPinnedFrames();
        passesDirtyFramesUntilTheyAreFlushed();
        writesWhatItTakesOut();
        writesNothingThatIsNotDirty();
        isFullAndChangesNothing();
        isNotFullForAPageThatIsThere();
        answersTheFrameOfEachPage();
        refusesOtherPages();
        throwsBeforeItIsFull();
        Run.finish();
    }

    private static void takesTheLeastEmptyFrame() {
        new Run("least empty frame", 3)
                .due(0, "fetch", 31)
                .due(1, "fetch", 0)
                .due(2, "fetch", 17)
                .frame(0, 31, 1, 0, 1, 0)
                .frame(1, 0, 1, 0, 1, 0)
                .frame(2, 17, 1, 0, 1, 0)
                .due(0, "count", 3)
                .due(3, "count", 5);
        new Run("an empty frame before one that could be taken", 2)
                .call("fetch", 1).call("release", 1)
                .due(1, "fetch", 2)
                .frame(0, 1, 0, 0, 1, 0);
        new Run("empty again behind a crash", 2)
                .call("fetch", 1).call("fetch", 2).call("crash")
                .due(0, "fetch", 2)
                .due(1, "fetch", 1);
    }

    private static void pinsAPageThatIsInAFrame() {
        new Run("a page that is there", 2)
                .due(0, "fetch", 5)
                .due(0, "fetch", 5)
                .due(0, "fetch", 5)
                .frame(0, 5, 3, 0, 1, 0)
                .frame(1, Run.NONE, 0, 0, 0, 0)
                .due(1, "count", 5);
    }

    private static void goesRoundByTheMarks() {
        new Run("round the marks", 3)
                .call("fetch", 1).call("release", 1)
                .call("fetch", 2).call("release", 2)
                .call("fetch", 3).call("release", 3)
                .due(0, "fetch", 4)
                .due(1, "count", 3)
                .frame(0, 4, 1, 0, 1, 0)
                .frame(1, 2, 0, 0, 0, 0)
                .frame(2, 3, 0, 0, 0, 0)
                .due(1, "fetch", 5)
                .due(2, "count", 3)
                .due(2, "fetch", 6)
                .due(0, "count", 3);
    }

    private static void marksAgainWhatIsFetchedAgain() {
        new Run("a second chance", 3)
                .call("fetch", 1).call("release", 1)
                .call("fetch", 2).call("release", 2)
                .call("fetch", 3).call("release", 3)
                .call("fetch", 4).call("release", 4)
                .due(1, "fetch", 2)
                .frame(1, 2, 1, 0, 1, 0)
                .due(0, "release", 2)
                .due(2, "fetch", 5)
                .frame(1, 2, 0, 0, 0, 0)
                .due(0, "count", 3);
    }

    private static void passesPinnedFrames() {
        new Run("pinned frames keep their marks", 3)
                .call("fetch", 1).call("fetch", 2).call("fetch", 3).call("release", 2)
                .due(1, "fetch", 4)
                .frame(0, 1, 1, 0, 1, 0)
                .frame(1, 4, 1, 0, 1, 0)
                .frame(2, 3, 1, 0, 1, 0)
                .due(2, "count", 3);
    }

    private static void passesDirtyFramesUntilTheyAreFlushed() {
        new Run("dirty frames", 2)
                .call("begin").call("fetch", 1).call("set", 0, 1, 0, 7).call("release", 1)
                .call("fetch", 2).call("release", 2)
                .due(1, "fetch", 3)
                .frame(0, 1, 0, 1, 1, 1)
                .due(0, "count", 3)
                .full("fetch", 4)
                .due(1, "flush", 1)
                .due(0, "fetch", 4)
                .due(7, "disk", 1, 0)
                .due(1, "count", 3);
    }

    private static void writesWhatItTakesOut() {
        new Run("written when taken out", 1)
                .call("begin").call("fetch", 1)
                .call("set", 0, 1, 3, 7).call("set", 0, 1, 7, -8)
                .call("release", 1).call("flush", 2)
                .due(0, "disk", 1, 3)
                .due(0, "fetch", 2)
                .frame(0, 2, 1, 0, 1, 0)
                .disk(1, 0, 0, 0, 7, 0, 0, 0, -8, 2)
                .due(1, "count", 4)
                .due(2, "count", 5)
                .due(0, "release", 2)
                .due(0, "fetch", 1)
                .frame(0, 1, 1, 0, 1, 2)
                .due(7, "get", 1, 3)
                .due(-8, "get", 1, 7);
    }

    private static void writesNothingThatIsNotDirty() {
        new Run("a clean page", 1)
                .call("fetch", 1).call("release", 1)
                .due(0, "fetch", 2)
                .due(0, "count", 4)
                .due(0, "release", 2)
                .due(0, "fetch", 1)
                .due(0, "count", 4)
                .due(3, "count", 5);
    }

    private static void isFullAndChangesNothing() {
        new Run("all pinned", 2)
                .call("fetch", 1).call("fetch", 2)
                .full("fetch", 3)
                .full("fetch", 0)
                .due(0, "fetch", 1);
        new Run("all pinned or dirty, the marks stay", 3)
                .call("begin")
                .call("fetch", 1).call("set", 0, 1, 0, 1).call("release", 1)
                .call("fetch", 2).call("set", 0, 2, 0, 1).call("release", 2)
                .call("fetch", 3)
                .full("fetch", 4)
                .frame(0, 1, 0, 1, 1, 1)
                .frame(1, 2, 0, 1, 1, 2)
                .frame(2, 3, 1, 0, 1, 0)
                .call("flush", 1)
                .due(0, "fetch", 4)
                .full("fetch", 5);
    }

    private static void isNotFullForAPageThatIsThere() {
        new Run("there, though all are pinned", 2)
                .call("fetch", 1).call("fetch", 2)
                .due(Run.FULL, "fetch", 3)
                .due(0, "fetch", 1)
                .due(1, "fetch", 2)
                .frame(0, 1, 2, 0, 1, 0)
                .frame(1, 2, 2, 0, 1, 0);
    }

    private static void answersTheFrameOfEachPage() {
        new Run("pages 0 and 31", 2)
                .due(0, "fetch", 31)
                .due(1, "fetch", 0)
                .due(0, "fetch", 31)
                .due(1, "fetch", 0)
                .frame(0, 31, 2, 0, 1, 0)
                .frame(1, 0, 2, 0, 1, 0);
    }

    private static void refusesOtherPages() {
        new Run("no such page", 2)
                .argument("fetch", -1)
                .argument("fetch", 32)
                .argument("fetch", Integer.MIN_VALUE)
                .argument("fetch", Integer.MAX_VALUE)
                .due(0, "fetch", 31);
    }

    private static void throwsBeforeItIsFull() {
        new Run("no such page, and no room", 1)
                .call("fetch", 0)
                .argument("fetch", 32);
    }
}
