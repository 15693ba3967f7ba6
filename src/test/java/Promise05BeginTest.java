public final class Promise05BeginTest {
    public static void main(String[] args) {
        givesTheLeastNumber();
        isFullWithAllActive();
        startsAnewBehindAnAbort();
        needsRoomForTwoRecords();
        isFullWithRoomForOne();
        needsRoomForTheEndsOfOthers();
        isFullWithoutRoomForTheEndsOfOthers();
        needsRoomForTheUndosOfOthers();
        countsNoUndosThatAreDone();
        countsNoUpdatesThatAreCommitted();
        countsNoUpdatesThatAreGone();
        isFullBothWaysAtOnce();
        writesNoRecord();
        Run.finish();
    }

    private static void givesTheLeastNumber() {
        new Run("least number", 2)
                .due(0, "begin").due(1, "begin").due(2, "begin")
                .due(3, "count", 2)
                .due(0, "count", 0)
                .call("commit", 1)
                .due(1, "begin")
                .call("abort", 0).call("commit", 2)
                .due(0, "begin").due(2, "begin").due(3, "begin")
                .call("crash")
                .due(0, "count", 2)
                .due(0, "begin");
    }

    private static void isFullWithAllActive() {
        Run run = new Run("all active", 1);
        for (int t = 0; t < 8; t++) {
            run.due(t, "begin");
        }
        run.full("begin").due(8, "count", 2)
                .call("commit", 5)
                .due(5, "begin")
                .full("begin");
    }

    private static void startsAnewBehindAnAbort() {
        new Run("abort begun, then ended by a crash", 1)
                .call("begin").call("fetch", 1).call("set", 0, 1, 0, 5).call("release", 1)
                .call("flush", 1).call("fetch", 2)
                .due(Run.FULL, "abort", 0)
                .state("commit", 0)
                .call("crash")
                .due(0, "begin")
                .due(0, "fetch", 1)
                .due(4, "set", 0, 1, 0, 6);
        new Run("abort begun, then ended", 1)
                .call("begin").call("fetch", 1).call("set", 0, 1, 0, 5).call("release", 1)
                .call("flush", 1).call("fetch", 2)
                .due(Run.FULL, "abort", 0)
                .call("release", 2)
                .due(1, "abort", 0)
                .due(0, "begin")
                .due(4, "commit", 0);
    }

    // With none active two records must fit: 398 stand when the last one may begin.
    private static void needsRoomForTwoRecords() {
        Run run = new Run("room for two", 1).call("fetch", 0);
        fill(run, 398);
        run.due(0, "begin")
                .full("begin")
                .due(399, "commit", 0);
    }

    private static void isFullWithRoomForOne() {
        Run run = new Run("room for one", 1).call("fetch", 0);
        fill(run, 399);
        run.full("begin").due(0, "count", 2);
    }

    // 391 records, seven ends, and two more are 400: the eighth may begin.
    private static void needsRoomForTheEndsOfOthers() {
        Run run = new Run("room for seven ends", 1).call("fetch", 0);
        fill(run, 391);
        for (int t = 0; t < 8; t++) {
            run.due(t, "begin");
        }
        for (int t = 0; t < 8; t++) {
            run.due(392 + t, "commit", t);
        }
        run.due(399, "count", 0);
    }

    // 392 records, seven ends, and two more are 401: seven are active, the eighth may not begin.
    private static void isFullWithoutRoomForTheEndsOfOthers() {
        Run run = new Run("no room for seven ends", 1).call("fetch", 0);
        fill(run, 392);
        for (int t = 0; t < 7; t++) {
            run.due(t, "begin");
        }
        run.full("begin").due(7, "count", 2).due(0, "abort", 3).full("begin");
    }

    // One active with 10 updates needs 10 undos and an end: 387 + 11 + 2 is 400.
    private static void needsRoomForTheUndosOfOthers() {
        Run run = new Run("room for the others' undos", 1).call("fetch", 0);
        fill(run, 377);
        run.due(0, "begin");
        for (int i = 0; i < 10; i++) {
            run.call("set", 0, 0, 1, i);
        }
        run.due(387, "count", 0)
                .due(1, "begin")
                .full("begin")
                .full("set", 1, 0, 0, 5)
                .due(388, "commit", 1)
                .full("begin")
                .due(10, "abort", 0)
                .due(399, "count", 0)
                .full("begin");
    }

    // Two of three updates are undone: 393 stand, and one undo is still to come.
    private static void countsNoUndosThatAreDone() {
        Run run = new Run("undos that are done", 2).call("fetch", 0);
        fill(run, 388);
        run.due(0, "begin")
                .due(1, "fetch", 1)
                .due(389, "set", 0, 1, 0, 77)
                .call("release", 1).call("flush", 389)
                .due(1, "fetch", 2)
                .due(390, "set", 0, 0, 0, 78)
                .due(391, "set", 0, 0, 1, 79)
                .due(Run.FULL, "abort", 0)
                .due(393, "count", 0)
                .due(1, "begin").due(2, "begin").due(3, "begin").due(4, "begin")
                .full("begin");
    }

    // 10 updates stand, but behind the commit they need no undos: 398 records, and two more.
    private static void countsNoUpdatesThatAreCommitted() {
        Run run = new Run("updates that are committed", 1).call("fetch", 0);
        fill(run, 377);
        run.due(0, "begin");
        for (int i = 0; i < 10; i++) {
            run.due(378 + i, "set", 0, 0, 1, i);
        }
        run.due(388, "commit", 0);
        for (int t = 0; t < 8; t++) {
            run.due(t, "begin");
        }
        for (int t = 0; t < 8; t++) {
            run.due(389 + t, "commit", t);
        }
        run.due(0, "begin").due(397, "commit", 0)
                .due(0, "begin").due(398, "commit", 0)
                .due(0, "begin").full("begin");
    }

    private static void countsNoUpdatesThatAreGone() {
        Run run = new Run("updates that are gone", 1).call("fetch", 0).due(0, "begin");
        for (int i = 1; i <= 199; i++) {
            run.due(i, "set", 0, 0, 1, i);
        }
        run.full("begin").due(199, "crash");
        for (int t = 0; t < 8; t++) {
            run.due(t, "begin");
        }
    }

    private static void isFullBothWaysAtOnce() {
        Run run = new Run("all active, and no room", 1).call("fetch", 0);
        fill(run, 391);
        for (int t = 0; t < 8; t++) {
            run.due(t, "begin");
        }
        run.full("begin").due(8, "count", 2);
    }

    private static void writesNoRecord() {
        new Run("no record", 1)
                .due(0, "begin").due(1, "begin")
                .due(0, "count", 0).due(0, "count", 1)
                .argument("log", 1, 0);
    }

    /** Makes the log as long as told, with nothing left to undo: page 0 must be pinned. */
    static void fill(Run run, int records) {
        int updates = (records - 1) / 2;
        run.due(0, "begin");
        for (int i = 0; i < updates; i++) {
            run.call("set", 0, 0, i & 7, i);
        }
        // An abort makes most records by one call, and a run has only 512.
        run.due(updates, "abort", 0);
        if (records % 2 == 0) {
            run.due(0, "begin").due(records, "commit", 0);
        }
        run.due(records, "count", 0);
    }
}
