public final class Promise04GetTest {
    public static void main(String[] args) {
        readsTheFrame();
        readsTheFirstAndTheLastNumber();
        readsTheLeastAndTheGreatestValue();
        refusesAPageThatNeverCame();
        refusesAPageWithItsLastPinGone();
        readsAPageWithOnePinLeft();
        refusesAPageThatWasTakenOut();
        refusesAPageBehindACrash();
        refusesOtherPages();
        refusesOtherNumbers();
        letsIllegalArgumentWin();
        Run.finish();
    }

    private static void readsTheFrame() {
        Run run = new Run("numbers", 2).call("begin").call("fetch", 6);
        for (int k = 0; k < 8; k++) {
            run.due(0, "get", 6, k).call("set", 0, 6, k, 100 + k);
        }
        for (int k = 0; k < 8; k++) {
            run.due(100 + k, "get", 6, k).due(0, "disk", 6, k);
        }
        run.due(1, "frame", 0, 1);
    }

    private static void readsTheFirstAndTheLastNumber() {
        new Run("0 and 7", 1).call("begin").call("fetch", 6)
                .call("set", 0, 6, 0, 10).call("set", 0, 6, 7, 17)
                .due(10, "get", 6, 0)
                .due(17, "get", 6, 7);
    }

    private static void readsTheLeastAndTheGreatestValue() {
        new Run("any value", 1).call("begin").call("fetch", 6)
                .call("set", 0, 6, 0, Integer.MIN_VALUE).due(Integer.MIN_VALUE, "get", 6, 0)
                .call("set", 0, 6, 0, Integer.MAX_VALUE).due(Integer.MAX_VALUE, "get", 6, 0)
                .call("set", 0, 6, 0, Run.NONE).due(Run.NONE, "get", 6, 0)
                .call("set", 0, 6, 0, Run.FULL).due(Run.FULL, "get", 6, 0);
    }

    private static void refusesAPageThatNeverCame() {
        new Run("in no frame", 2).state("get", 0, 0).state("get", 31, 7);
    }

    private static void refusesAPageWithItsLastPinGone() {
        new Run("its last pin is gone", 2)
                .call("fetch", 0).call("release", 0)
                .state("get", 0, 0)
                .call("fetch", 0)
                .due(0, "get", 0, 0);
    }

    private static void readsAPageWithOnePinLeft() {
        new Run("one pin left", 2)
                .call("fetch", 0).call("fetch", 0).call("release", 0)
                .due(0, "get", 0, 0);
    }

    private static void refusesAPageThatWasTakenOut() {
        new Run("taken out", 1)
                .call("fetch", 0).call("release", 0).call("fetch", 1)
                .state("get", 0, 0)
                .due(0, "get", 1, 0);
    }

    private static void refusesAPageBehindACrash() {
        new Run("behind a crash", 2)
                .call("fetch", 0).call("crash")
                .state("get", 0, 7);
    }

    private static void refusesOtherPages() {
        new Run("no such page", 2)
                .call("fetch", 0)
                .argument("get", -1, 0)
                .argument("get", 32, 0)
                .argument("get", Integer.MIN_VALUE, 0)
                .argument("get", Integer.MAX_VALUE, 0);
    }

    private static void refusesOtherNumbers() {
        new Run("no such number", 2)
                .call("fetch", 0)
                .argument("get", 0, -1)
                .argument("get", 0, 8)
                .argument("get", 0, Integer.MIN_VALUE)
                .argument("get", 0, Integer.MAX_VALUE);
    }

    private static void letsIllegalArgumentWin() {
        new Run("IllegalArgument wins", 2)
                .argument("get", 3, 8)
                .argument("get", 3, -1);
    }
}
