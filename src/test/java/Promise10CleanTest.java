public final class Promise10CleanTest {
    public static void main(String[] args) {
        writesAtFlushed();
        writesBelowFlushed();
        leavesWhatIsJustAboveFlushed();
        goesByTheLastLsn();
        leavesWhatIsNotDirty();
        leavesItTheSecondTime();
        leavesWhatIsInNoFrame();
        leavesWhatWasTakenOut();
        writesWithoutPins();
        bringsNoMark();
        writesBothEnds();
        refusesOtherPages();
        Run.finish();
    }

    /** Page 1, pinned, with the LSNs 1 and 2. */
    private static Run twoUpdates(String title) {
        return new Run(title, 2)
                .call("begin").call("fetch", 1).call("set", 0, 1, 0, 5).call("set", 0, 1, 7, 6);
    }

    private static void writesAtFlushed() {
        twoUpdates("LSN 2, FLUSHED 2")
                .due(2, "flush", 2)
                .due(1, "clean", 1)
                .disk(1, 5, 0, 0, 0, 0, 0, 0, 6, 2)
                .frame(0, 1, 1, 0, 1, 2)
                .due(5, "get", 1, 0)
                .due(1, "count", 4);
    }

    private static void writesBelowFlushed() {
        twoUpdates("LSN 2, FLUSHED 3")
                .due(3, "commit", 0)
                .due(1, "clean", 1)
                .disk(1, 5, 0, 0, 0, 0, 0, 0, 6, 2);
    }

    private static void leavesWhatIsJustAboveFlushed() {
        twoUpdates("LSN 2, FLUSHED 1")
                .due(1, "flush", 1)
                .due(0, "clean", 1)
                .disk(1, 0, 0, 0, 0, 0, 0, 0, 0, 0)
                .frame(0, 1, 1, 1, 1, 2)
                .due(0, "count", 4)
                .due(1, "count", 1);
    }

    private static void goesByTheLastLsn() {
        twoUpdates("cleaned, then set again")
                .due(2, "flush", 2).due(1, "clean", 1)
                .due(3, "set", 0, 1, 1, 7)
                .due(0, "clean", 1)
                .due(0, "disk", 1, 1)
                .due(3, "flush", 3)
                .due(1, "clean", 1)
                .disk(1, 5, 7, 0, 0, 0, 0, 0, 6, 3)
                .due(2, "count", 4);
    }

    private static void leavesWhatIsNotDirty() {
        new Run("not dirty", 2)
                .call("fetch", 1)
                .due(0, "clean", 1)
                .frame(0, 1, 1, 0, 1, 0)
                .due(0, "count", 4);
    }

    private static void leavesItTheSecondTime() {
        twoUpdates("twice")
                .due(2, "flush", 2)
                .due(1, "clean", 1)
                .due(0, "clean", 1)
                .due(1, "count", 4);
    }

    private static void leavesWhatIsInNoFrame() {
        new Run("in no frame", 2)
                .due(0, "clean", 0)
                .due(0, "clean", 31)
                .frame(0, Run.NONE, 0, 0, 0, 0)
                .due(0, "count", 4)
                .due(0, "count", 5);
    }

    private static void leavesWhatWasTakenOut() {
        new Run("taken out", 1)
                .call("begin").call("fetch", 1).call("set", 0, 1, 0, 5).call("flush", 1)
                .call("release", 1).call("fetch", 2)
                .due(1, "count", 4)
                .due(0, "clean", 1)
                .due(1, "count", 4)
                .frame(0, 2, 1, 0, 1, 0);
    }

    private static void writesWithoutPins() {
        twoUpdates("no pins")
                .call("release", 1)
                .due(2, "flush", 2)
                .due(1, "clean", 1)
                .frame(0, 1, 0, 0, 1, 2)
                .disk(1, 5, 0, 0, 0, 0, 0, 0, 6, 2);
    }

    private static void bringsNoMark() {
        new Run("without a mark", 2)
                .call("begin").call("fetch", 1).call("set", 0, 1, 0, 5).call("release", 1)
                .call("fetch", 2).call("release", 2)
                .call("flush", 1)
                .call("fetch", 3).call("release", 3)
                .call("fetch", 1).call("set", 0, 1, 0, 6).call("release", 1)
                .call("flush", 2)
                .call("fetch", 4)
                .frame(1, 1, 0, 1, 0, 2)
                .due(1, "clean", 1)
                .frame(1, 1, 0, 0, 0, 2)
                .due(6, "disk", 1, 0)
                .due(2, "count", 4);
    }

    private static void writesBothEnds() {
        new Run("pages 0 and 31", 2)
                .call("begin").call("fetch", 0).call("fetch", 31)
                .call("set", 0, 0, 0, 5).call("set", 0, 31, 0, 6).call("flush", 2)
                .due(1, "clean", 0)
                .due(0, "disk", 31, 0)
                .due(1, "clean", 31)
                .due(5, "disk", 0, 0)
                .due(6, "disk", 31, 0);
    }

    private static void refusesOtherPages() {
        new Run("no such page", 2)
                .argument("clean", -1)
                .argument("clean", 32)
                .argument("clean", Integer.MIN_VALUE)
                .argument("clean", Integer.MAX_VALUE);
    }
}
