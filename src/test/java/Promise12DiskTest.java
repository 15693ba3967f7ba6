public final class Promise12DiskTest {
    public static void main(String[] args) {
        tellsEveryNumberAndTheLsn();
        tellsTheFirstAndTheLastPage();
        tellsTheDiskAndNotTheFrame();
        needsNoFrame();
        refusesOtherPages();
        refusesOtherNumbers();
        Run.finish();
    }

    private static void tellsEveryNumberAndTheLsn() {
        Run run = new Run("numbers and LSN", 2).call("begin").call("fetch", 17);
        for (int k = 0; k < 8; k++) {
            run.due(k + 1, "set", 0, 17, k, 10 * k + 1);
        }
        run.due(8, "flush", 8)
                .due(1, "clean", 17)
                .disk(17, 1, 11, 21, 31, 41, 51, 61, 71, 8)
                .disk(16, 0, 0, 0, 0, 0, 0, 0, 0, 0)
                .disk(18, 0, 0, 0, 0, 0, 0, 0, 0, 0);
    }

    private static void tellsTheFirstAndTheLastPage() {
        new Run("0 and 31", 2).call("begin").call("fetch", 0).call("fetch", 31)
                .call("set", 0, 0, 0, 5).call("set", 0, 31, 7, 6).call("flush", 2)
                .call("clean", 0).call("clean", 31)
                .disk(0, 5, 0, 0, 0, 0, 0, 0, 0, 1)
                .disk(31, 0, 0, 0, 0, 0, 0, 0, 6, 2);
    }

    private static void tellsTheDiskAndNotTheFrame() {
        new Run("not yet written", 2).call("begin").call("fetch", 5).call("set", 0, 5, 0, 9)
                .disk(5, 0, 0, 0, 0, 0, 0, 0, 0, 0)
                .due(1, "flush", 1)
                .disk(5, 0, 0, 0, 0, 0, 0, 0, 0, 0)
                .due(1, "clean", 5)
                .call("set", 0, 5, 0, 10)
                .disk(5, 9, 0, 0, 0, 0, 0, 0, 0, 1);
    }

    private static void needsNoFrame() {
        new Run("no frame, no pins", 1)
                .due(0, "disk", 31, 7)
                .frame(0, Run.NONE, 0, 0, 0, 0)
                .due(0, "count", 5)
                .call("fetch", 1)
                .due(0, "disk", 2, 0)
                .frame(0, 1, 1, 0, 1, 0)
                .due(1, "count", 5);
    }

    private static void refusesOtherPages() {
        new Run("no such page", 2)
                .argument("disk", -1, 0)
                .argument("disk", 32, 0)
                .argument("disk", -1, 8)
                .argument("disk", 32, 8)
                .argument("disk", Integer.MIN_VALUE, 0)
                .argument("disk", Integer.MAX_VALUE, 8);
    }

    private static void refusesOtherNumbers() {
        new Run("no such number", 2)
                .due(0, "disk", 0, 8)
                .argument("disk", 0, -1)
                .argument("disk", 0, 9)
                .argument("disk", 31, 9)
                .argument("disk", 0, Integer.MIN_VALUE)
                .argument("disk", 0, Integer.MAX_VALUE)
                .argument("disk", 32, 9);
    }
}
