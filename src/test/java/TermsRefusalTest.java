/** Terms: what throws or is FULL changes nothing, and the first exception that is listed wins. */
public final class TermsRefusalTest {
    private static final int MIN = Integer.MIN_VALUE;
    private static final int MAX = Integer.MAX_VALUE;
    private static final int[] NO_PAGES = {MIN, -2, -1, 32, 33, MAX};
    private static final int[] NO_NUMBERS = {MIN, -2, -1, 8, 9, MAX};
    private static final int[] NO_TRANSACTIONS = {MIN, -2, -1, 8, 9, MAX};

    public static void main(String[] args) {
        changesNothingByAWrongPage();
        changesNothingByAWrongNumber();
        changesNothingByAWrongTransaction();
        changesNothingByAWrongLook();
        changesNothingByAWrongLsn();
        changesNothingByAWrongState();
        changesNothingByFullFetches();
        changesNothingByFullBegins();
        changesNothingByFullSets();
        takesNoRoomByFullSets();
        takesNoRoomByRefusedSets();
        leavesNoTraceForTheNextThatBegins();
        changesBySomeFullAborts();
        letsTheArgumentWinInRelease();
        letsTheArgumentWinInGet();
        letsTheArgumentWinInSet();
        letsTheArgumentWinInCommit();
        letsTheArgumentWinInAbort();
        throwsBeforeAFetchIsFull();
        throwsBeforeASetIsFull();
        throwsBeforeAnAbortIsFull();
        Run.finish();
    }

    /**
     * A state in which much could go wrong: the hand at 1 of 3, page 9 dirty above FLUSHED and
     * pinned, page 1 clean and without a mark, page 2 dirty at FLUSHED; of the transactions 0 has
     * committed, 1 and 3 are active with updates, 2 was aborted.
     */
    private static Run busy(String title) {
        return new Run(title, 3)
                .call("fetch", 0).call("release", 0).call("fetch", 1).call("release", 1)
                .call("fetch", 2).call("begin").call("begin").call("begin").call("begin")
                .call("set", 0, 2, 1, 11).call("set", 1, 2, 2, 12).call("release", 2)
                .call("commit", 0)
                .due(0, "fetch", 9)
                .call("set", 1, 9, 0, 13).call("set", 2, 9, 1, 14).call("abort", 2)
                .call("set", 3, 9, 7, 15)
                .frame(0, 9, 1, 1, 1, 8)
                .frame(1, 1, 0, 0, 0, 0)
                .frame(2, 2, 0, 1, 0, 2)
                .due(1, "count", 3).due(3, "count", 1).due(8, "count", 0);
    }

    /** One frame, which is pinned; an abort of 0 is begun, as it cannot bring page 3. */
    private static Run begun(String title) {
        return new Run(title, 1)
                .call("begin").call("begin").call("fetch", 3).call("set", 0, 3, 0, 5)
                .call("release", 3).call("flush", 1).call("fetch", 4)
                .due(Run.FULL, "abort", 0);
    }

    private static void changesNothingByAWrongPage() {
        Run run = busy("a wrong page");
        for (int page : NO_PAGES) {
            run.argument("fetch", page).argument("release", page).argument("clean", page)
                    .argument("get", page, 0).argument("set", 1, page, 0, 1)
                    .argument("disk", page, 0);
        }
    }

    private static void changesNothingByAWrongNumber() {
        Run run = busy("a wrong number");
        for (int k : NO_NUMBERS) {
            run.argument("get", 9, k).argument("set", 1, 9, k, 1);
            if (k != 8) {
                run.argument("disk", 9, k);
            }
        }
    }

    private static void changesNothingByAWrongTransaction() {
        Run run = busy("a wrong transaction");
        for (int t : NO_TRANSACTIONS) {
            run.argument("set", t, 9, 0, 1).argument("commit", t).argument("abort", t);
        }
    }

    private static void changesNothingByAWrongLook() {
        Run run = busy("a wrong look");
        for (int wrong : new int[] {MIN, -2, -1, 8, 9, MAX}) {
            run.argument("count", wrong).argument("frame", 0, wrong).argument("log", 1, wrong)
                    .argument("frame", wrong, 0);
        }
        run.argument("frame", 3, 0).argument("frame", 0, 5).argument("log", 1, 7)
                .argument("log", 0, 0).argument("log", -1, 0).argument("log", 9, 0)
                .argument("log", MIN, 0).argument("log", MAX, 0);
    }

    private static void changesNothingByAWrongLsn() {
        busy("a wrong LSN").argument("flush", -1).argument("flush", -2).argument("flush", MIN);
    }

    private static void changesNothingByAWrongState() {
        busy("a wrong state")
                .state("release", 1).state("release", 2).state("release", 0).state("release", 31)
                .state("get", 1, 0).state("get", 2, 1).state("get", 0, 0)
                .state("set", 1, 1, 0, 1).state("set", 1, 2, 0, 1).state("set", 1, 0, 0, 1)
                .state("set", 0, 9, 0, 1).state("set", 2, 9, 0, 1).state("set", 7, 9, 0, 1)
                .state("commit", 0).state("commit", 2).state("commit", 4).state("commit", 7)
                .state("abort", 0).state("abort", 2).state("abort", 4).state("abort", 7);
        begun("a wrong state, as abort was begun")
                .state("commit", 0).state("set", 0, 4, 0, 1);
    }

    private static void changesNothingByFullFetches() {
        busy("a full fetch").call("fetch", 1).call("fetch", 2)
                .full("fetch", 0).full("fetch", 31).full("fetch", 0)
                .due(0, "fetch", 9);
    }

    private static void changesNothingByFullBegins() {
        busy("a full begin").call("begin").call("begin").call("begin").call("begin")
                .due(6, "count", 2)
                .call("begin").call("begin")
                .due(8, "count", 2)
                .full("begin").full("begin");
    }

    // The page is clean and the number another: a set that is FULL must leave both.
    private static void changesNothingByFullSets() {
        Run run = new Run("a full set", 2).call("begin").call("fetch", 0).call("fetch", 1);
        for (int i = 1; i <= 199; i++) {
            run.due(i, "set", 0, 0, 0, i);
        }
        run.due(199, "flush", 199).due(1, "clean", 0)
                .full("set", 0, 0, 0, 5)
                .full("set", 0, 1, 0, 5)
                .frame(0, 0, 1, 0, 1, 199)
                .frame(1, 1, 1, 0, 1, 0)
                .due(199, "get", 0, 0).due(0, "get", 1, 0);
    }

    // 0 and 1 have 99 updates each; behind the commit of 1, 0 has room for 50 more:
    // 199 + 50 records, 149 undos, an end, and one more are 400.
    private static void takesNoRoomByFullSets() {
        Run run = new Run("no room taken by full sets", 1).call("begin").call("begin").call("fetch", 0);
        for (int i = 1; i <= 198; i++) {
            run.due(i, "set", i % 2, 0, 0, i);
        }
        for (int i = 0; i < 10; i++) {
            run.due(Run.FULL, "set", i % 2, 0, 0, 5);
        }
        run.due(199, "commit", 1);
        for (int i = 200; i <= 249; i++) {
            run.due(i, "set", 0, 0, 0, i);
        }
        run.full("set", 0, 0, 0, 5).due(149, "abort", 0);
    }

    private static void takesNoRoomByRefusedSets() {
        Run run = new Run("no room taken by refused sets", 1).call("begin").call("fetch", 0);
        for (int i = 0; i < 10; i++) {
            run.state("set", 1, 0, 0, 5).state("set", 0, 1, 0, 5)
                    .argument("set", 0, 0, 8, 5);
        }
        for (int i = 1; i <= 199; i++) {
            run.due(i, "set", 0, 0, 0, i);
        }
        run.full("set", 0, 0, 0, 5);
    }

    // A number that is not active is refused, begins later, and then goes on as any other.
    private static void leavesNoTraceForTheNextThatBegins() {
        for (String refused : new String[] {"abort", "commit"}) {
            new Run(refused + " before begin", 1).call("fetch", 0)
                    .state(refused, 0).state(refused, 1)
                    .due(0, "begin")
                    .due(1, "set", 0, 0, 0, 5)
                    .due(2, "commit", 0)
                    .state(refused, 0)
                    .due(0, "begin")
                    .due(3, "set", 0, 0, 0, 6)
                    .due(1, "abort", 0)
                    .state(refused, 0)
                    .due(0, "begin")
                    .due(6, "commit", 0);
        }
        new Run("set before begin", 1).call("fetch", 0)
                .state("set", 0, 0, 0, 5)
                .due(0, "begin")
                .due(0, "abort", 0)
                .due(1, "count", 0);
    }

    // What abort says: what was undone before stays so, and abort was begun; the rest is as it was.
    private static void changesBySomeFullAborts() {
        begun("a full abort that undid nothing")
                .full("abort", 0)
                .due(1, "count", 0).due(2, "count", 2)
                .frame(0, 4, 1, 0, 1, 0)
                .due(2, "set", 1, 4, 0, 6)
                .full("abort", 0);
        new Run("a full abort that undid one of two", 1)
                .call("begin").call("fetch", 3).call("set", 0, 3, 0, 5).call("release", 3)
                .call("flush", 1).call("fetch", 4).call("set", 0, 4, 0, 6)
                .due(Run.FULL, "abort", 0)
                .due(3, "count", 0).due(1, "count", 2).due(1, "count", 1).due(0, "count", 3)
                .log(3, 1, 0, 4, 0, 6, 0, 2)
                .frame(0, 4, 1, 1, 1, 3)
                .due(0, "get", 4, 0)
                .full("abort", 0)
                .disk(3, 5, 0, 0, 0, 0, 0, 0, 0, 1);
    }

    private static void letsTheArgumentWinInRelease() {
        new Run("release", 1).argument("release", -1).argument("release", 32);
    }

    private static void letsTheArgumentWinInGet() {
        new Run("get", 1)
                .argument("get", 0, 8).argument("get", 0, -1)
                .argument("get", 32, 0).argument("get", -1, 8)
                .call("fetch", 0).call("release", 0)
                .argument("get", 0, 8);
    }

    private static void letsTheArgumentWinInSet() {
        new Run("set, not active and no pins", 1)
                .argument("set", 0, 0, 8, 1).argument("set", 0, 0, -1, 1)
                .argument("set", 0, 32, 0, 1).argument("set", 0, -1, 0, 1)
                .argument("set", 8, 0, 0, 1).argument("set", -1, 0, 0, 1);
        new Run("set, no pins", 1).call("begin")
                .argument("set", 0, 0, 8, 1).argument("set", 0, 32, 0, 1);
        new Run("set, not active", 1).call("fetch", 0)
                .argument("set", 0, 0, 8, 1).argument("set", 0, 32, 0, 1);
        begun("set, abort was begun")
                .argument("set", 0, 4, 8, 1).argument("set", 0, 32, 0, 1);
    }

    private static void letsTheArgumentWinInCommit() {
        new Run("commit", 1).argument("commit", -1).argument("commit", 8);
    }

    private static void letsTheArgumentWinInAbort() {
        new Run("abort", 1).argument("abort", -1).argument("abort", 8);
    }

    private static void throwsBeforeAFetchIsFull() {
        new Run("fetch", 1).call("fetch", 0).full("fetch", 1)
                .argument("fetch", 32).argument("fetch", -1);
    }

    private static void throwsBeforeASetIsFull() {
        Run run = new Run("set", 2)
                .call("begin").call("begin").call("fetch", 0).call("fetch", 1)
                .call("set", 0, 1, 0, 5).call("flush", 1).call("release", 1).call("fetch", 2)
                .due(Run.FULL, "abort", 0);
        // 198 updates, as many undos, two ends, and one more are 399: 199 updates would need 401.
        for (int i = 2; i <= 198; i++) {
            run.due(i, "set", 1, 0, 0, i);
        }
        run.full("set", 1, 0, 0, 5)
                .argument("set", 8, 0, 0, 5).argument("set", 1, 32, 0, 5).argument("set", 1, 0, 8, 5)
                .state("set", 2, 0, 0, 5)
                .state("set", 1, 1, 0, 5)
                .state("set", 0, 0, 0, 5);
    }

    private static void throwsBeforeAnAbortIsFull() {
        begun("abort").full("abort", 0).argument("abort", 8).state("abort", 2);
    }
}
