public final class Promise13FrameTest {
    public static void main(String[] args) {
        tellsAnEmptyFrame();
        tellsPageZero();
        tellsPageAndPins();
        tellsDirtyAndLsn();
        tellsAFrameThatIsNoLongerDirty();
        tellsAFrameThatIsNoLongerMarked();
        tellsTheLsnOfAnotherPage();
        tellsAnEmptyFrameBehindACrash();
        refusesFramesAbove();
        refusesFramesBelow();
        refusesOtherLooks();
        Run.finish();
    }

    private static void tellsAnEmptyFrame() {
        new Run("empty", 2)
                .frame(0, Run.NONE, 0, 0, 0, 0)
                .frame(1, Run.NONE, 0, 0, 0, 0)
                .call("fetch", 8)
                .frame(1, Run.NONE, 0, 0, 0, 0);
    }

    private static void tellsPageZero() {
        new Run("page 0 is not NONE", 1).call("fetch", 0).frame(0, 0, 1, 0, 1, 0);
    }

    private static void tellsPageAndPins() {
        new Run("page and pins", 2)
                .call("fetch", 31)
                .frame(0, 31, 1, 0, 1, 0)
                .call("fetch", 31)
                .frame(0, 31, 2, 0, 1, 0)
                .call("release", 31).call("release", 31)
                .frame(0, 31, 0, 0, 1, 0);
    }

    private static void tellsDirtyAndLsn() {
        new Run("dirty and LSN", 2)
                .call("begin").call("commit", 0)
                .call("begin").call("fetch", 8).call("fetch", 9)
                .call("set", 0, 9, 0, 4)
                .frame(0, 8, 1, 0, 1, 0)
                .frame(1, 9, 1, 1, 1, 2)
                .call("set", 0, 9, 0, 5)
                .frame(1, 9, 1, 1, 1, 3);
    }

    private static void tellsAFrameThatIsNoLongerDirty() {
        new Run("no longer dirty, its LSN stays", 1)
                .call("begin").call("fetch", 8).call("set", 0, 8, 0, 4).call("flush", 1)
                .due(1, "clean", 8)
                .frame(0, 8, 1, 0, 1, 1);
    }

    private static void tellsAFrameThatIsNoLongerMarked() {
        new Run("no longer marked", 2)
                .call("fetch", 1).call("release", 1).call("fetch", 2).call("release", 2)
                .call("fetch", 3)
                .frame(0, 3, 1, 0, 1, 0)
                .frame(1, 2, 0, 0, 0, 0);
    }

    private static void tellsTheLsnOfAnotherPage() {
        new Run("each page has its LSN", 1)
                .call("begin").call("fetch", 8).call("set", 0, 8, 0, 4).call("flush", 1)
                .call("release", 8).call("fetch", 9)
                .frame(0, 9, 1, 0, 1, 0)
                .call("release", 9).call("fetch", 8)
                .frame(0, 8, 1, 0, 1, 1);
    }

    private static void tellsAnEmptyFrameBehindACrash() {
        new Run("empty again", 1)
                .call("begin").call("fetch", 8).call("set", 0, 8, 0, 4)
                .frame(0, 8, 1, 1, 1, 1)
                .call("crash")
                .frame(0, Run.NONE, 0, 0, 0, 0);
    }

    private static void refusesFramesAbove() {
        for (int frames = 1; frames <= 8; frames++) {
            Run run = new Run("frames " + frames, frames).due(Run.NONE, "frame", frames - 1, 0);
            for (int what = 0; what < 5; what++) {
                run.argument("frame", frames, what);
            }
            run.argument("frame", 8, 0).argument("frame", 9, 0)
                    .argument("frame", Integer.MAX_VALUE, 0);
        }
    }

    private static void refusesFramesBelow() {
        new Run("below 0", 3)
                .argument("frame", -1, 0)
                .argument("frame", -1, 4)
                .argument("frame", Integer.MIN_VALUE, 0);
    }

    private static void refusesOtherLooks() {
        new Run("no such look", 3)
                .due(0, "frame", 0, 4)
                .argument("frame", 0, 5)
                .argument("frame", 0, -1)
                .argument("frame", 2, 5)
                .argument("frame", 0, Integer.MIN_VALUE)
                .argument("frame", 0, Integer.MAX_VALUE)
                .argument("frame", 3, 5);
    }
}
