/** Terms: THE DISK with its PAGES and numbers, and what DIRTY means. */
public final class TermsDiskTest {
    private static final String[] BY_PAGE = {"fetch", "release", "clean"};
    private static final int[] NO_PAGES = {-1, 32, Integer.MIN_VALUE, Integer.MAX_VALUE};
    private static final int[] NO_NUMBERS = {-1, 8, Integer.MIN_VALUE, Integer.MAX_VALUE};

    public static void main(String[] args) {
        isAllZeroAtFirst();
        givesZerosToTheFramesAtFirst();
        hasItsFirstPage();
        hasItsLastPage();
        hasNoPageBelowOrAbove();
        hasEightNumbersBesideTheLsn();
        hasNoNumberBelowOrAbove();
        isDirtyByAnEqualNumber();
        isDirtyThoughUndone();
        isNotDirtyWhenItComes();
        Run.finish();
    }

    private static void isAllZeroAtFirst() {
        Run run = new Run("zeros on the disk", 1);
        for (int page = 0; page < 32; page++) {
            run.disk(page, 0, 0, 0, 0, 0, 0, 0, 0, 0);
        }
    }

    private static void givesZerosToTheFramesAtFirst() {
        Run run = new Run("zeros in a frame", 1);
        for (int page = 0; page < 32; page++) {
            run.due(0, "fetch", page);
            for (int k = 0; k < 8; k++) {
                run.due(0, "get", page, k);
            }
            run.due(0, "frame", 0, 4).due(0, "release", page);
        }
    }

    private static void hasItsFirstPage() {
        usesPage(0);
    }

    private static void hasItsLastPage() {
        usesPage(31);
    }

    private static void usesPage(int page) {
        new Run("page " + page, 1)
                .due(0, "begin")
                .due(0, "fetch", page)
                .due(1, "set", 0, page, 3, 30)
                .due(30, "get", page, 3)
                .due(1, "flush", 1)
                .due(1, "clean", page)
                .disk(page, 0, 0, 0, 30, 0, 0, 0, 0, 1)
                .frame(0, page, 1, 0, 1, 1)
                .log(1, 0, 0, page, 3, 0, 30, Run.NONE)
                .due(0, "release", page)
                .due(1, "abort", 0)
                .log(2, 1, 0, page, 3, 30, 0, 1)
                .due(3, "flush", 3)
                .due(0, "crash")
                .disk(page, 0, 0, 0, 0, 0, 0, 0, 0, 2);
    }

    private static void hasNoPageBelowOrAbove() {
        for (int page : NO_PAGES) {
            Run run = new Run("no page " + page, 2).call("begin").call("fetch", 0).call("fetch", 31);
            for (String name : BY_PAGE) {
                run.argument(name, page);
            }
            run.argument("get", page, 0).argument("set", 0, page, 0, 1)
                    .argument("disk", page, 0).argument("disk", page, 8);
        }
    }

    private static void hasEightNumbersBesideTheLsn() {
        Run run = new Run("eight numbers", 1).call("begin").call("fetch", 5);
        for (int k = 0; k < 8; k++) {
            run.due(k + 1, "set", 0, 5, k, 50 + k);
        }
        for (int k = 0; k < 8; k++) {
            run.due(50 + k, "get", 5, k);
        }
        run.due(8, "frame", 0, 4)
                .due(9, "commit", 0)
                .due(1, "clean", 5)
                .disk(5, 50, 51, 52, 53, 54, 55, 56, 57, 8)
                .disk(4, 0, 0, 0, 0, 0, 0, 0, 0, 0)
                .disk(6, 0, 0, 0, 0, 0, 0, 0, 0, 0);
    }

    private static void hasNoNumberBelowOrAbove() {
        for (int k : NO_NUMBERS) {
            new Run("no number " + k, 1).call("begin").call("fetch", 5)
                    .argument("get", 5, k)
                    .argument("set", 0, 5, k, 1);
        }
        new Run("8 of a page on the disk is its LSN, 9 is none", 1)
                .call("begin").call("fetch", 5).call("set", 0, 5, 0, 77).call("commit", 0)
                .call("clean", 5)
                .due(1, "disk", 5, 8)
                .argument("disk", 5, 9)
                .argument("disk", 5, -1);
    }

    // The number is as on the disk, the LSN is not.
    private static void isDirtyByAnEqualNumber() {
        new Run("an equal number", 1)
                .call("begin").call("fetch", 5)
                .due(1, "set", 0, 5, 0, 0)
                .frame(0, 5, 1, 1, 1, 1)
                .due(1, "flush", 1)
                .due(1, "clean", 5)
                .due(1, "disk", 5, 8)
                .due(1, "count", 4);
    }

    private static void isDirtyThoughUndone() {
        new Run("undone, so that the numbers are as on the disk", 1)
                .call("begin").call("fetch", 5).call("set", 0, 5, 0, 9)
                .due(1, "abort", 0)
                .due(0, "get", 5, 0)
                .frame(0, 5, 1, 1, 1, 2)
                .due(3, "flush", 3)
                .due(1, "clean", 5)
                .disk(5, 0, 0, 0, 0, 0, 0, 0, 0, 2);
    }

    private static void isNotDirtyWhenItComes() {
        new Run("come back", 1)
                .call("begin").call("fetch", 5).call("set", 0, 5, 0, 9).call("flush", 1)
                .call("release", 5)
                .due(0, "fetch", 6)
                .frame(0, 6, 1, 0, 1, 0)
                .call("release", 6)
                .due(0, "fetch", 5)
                .frame(0, 5, 1, 0, 1, 1)
                .due(0, "clean", 5);
    }
}
