public final class Promise03ReleaseTest {
    public static void main(String[] args) {
        takesPinsOneByOne();
        leavesTheMarkOfTheLastPin();
        leavesADirtyPageAsItIs();
        refusesAPageWithItsLastPinGone();
        refusesAPageThatNeverCame();
        refusesAPageThatWasTakenOut();
        refusesAPageThatAnAbortBrought();
        refusesAPageBehindACrash();
        refusesOtherPages();
        Run.finish();
    }

    private static void takesPinsOneByOne() {
        new Run("pins one by one", 2)
                .call("fetch", 9).call("fetch", 9).call("fetch", 9).call("fetch", 4)
                .due(2, "release", 9)
                .frame(0, 9, 2, 0, 1, 0)
                .due(1, "release", 9)
                .due(0, "release", 9)
                .frame(1, 4, 1, 0, 1, 0)
                .due(0, "release", 4);
    }

    private static void leavesTheMarkOfTheLastPin() {
        new Run("in its frame, marked", 2)
                .call("fetch", 9)
                .due(0, "release", 9)
                .frame(0, 9, 0, 0, 1, 0)
                .due(0, "fetch", 9)
                .due(1, "count", 5);
    }

    private static void leavesADirtyPageAsItIs() {
        new Run("dirty", 2)
                .call("begin").call("fetch", 9).call("set", 0, 9, 0, 5).call("flush", 1)
                .due(0, "release", 9)
                .frame(0, 9, 0, 1, 1, 1)
                .due(0, "disk", 9, 0)
                .due(0, "count", 4);
    }

    private static void refusesAPageWithItsLastPinGone() {
        new Run("its last pin is gone", 2)
                .call("fetch", 9).due(0, "release", 9)
                .state("release", 9)
                .state("release", 9)
                .due(0, "fetch", 9)
                .frame(0, 9, 1, 0, 1, 0);
    }

    private static void refusesAPageThatNeverCame() {
        new Run("in no frame", 2)
                .state("release", 0)
                .state("release", 31)
                .call("fetch", 1)
                .state("release", 2);
    }

    private static void refusesAPageThatWasTakenOut() {
        new Run("taken out", 1)
                .call("fetch", 1).call("release", 1).call("fetch", 2)
                .state("release", 1)
                .due(0, "release", 2);
    }

    private static void refusesAPageThatAnAbortBrought() {
        new Run("brought by an abort", 1)
                .call("begin").call("fetch", 1).call("set", 0, 1, 0, 5).call("flush", 1)
                .call("release", 1).call("fetch", 2).call("release", 2)
                .due(1, "abort", 0)
                .frame(0, 1, 0, 1, 1, 2)
                .state("release", 1);
    }

    private static void refusesAPageBehindACrash() {
        new Run("behind a crash", 2)
                .call("fetch", 1).call("crash")
                .state("release", 1);
    }

    private static void refusesOtherPages() {
        new Run("no such page", 2)
                .argument("release", -1)
                .argument("release", 32)
                .argument("release", Integer.MIN_VALUE)
                .argument("release", Integer.MAX_VALUE);
    }
}
