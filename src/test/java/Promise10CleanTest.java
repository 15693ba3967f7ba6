public final class Promise10CleanTest {
    public static void main(String[] args) {
        new Run("written", 2)
                .call("begin").call("fetch", 1)
                .due(0, "clean", 1)
                .call("set", 0, 1, 2, 5)
                .due(0, "clean", 1)
                .due(0, "disk", 1, 2)
                .frame(0, 1, 1, 1, 1, 1)
                .due(1, "flush", 1)
                .due(1, "clean", 1)
                .disk(1, 0, 0, 5, 0, 0, 0, 0, 0, 1)
                .frame(0, 1, 1, 0, 1, 1)
                .due(1, "count", 4)
                .due(0, "clean", 1)
                .due(1, "count", 4);
        new Run("the last LSN counts", 2)
                .call("begin").call("fetch", 1).call("set", 0, 1, 0, 5).call("set", 0, 1, 1, 6)
                .call("flush", 1)
                .due(0, "clean", 1)
                .call("flush", 2)
                .due(1, "clean", 1);
        new Run("without pins, and no mark comes of it", 2)
                .call("begin").call("fetch", 1).call("set", 0, 1, 0, 5).call("release", 1)
                .call("fetch", 2).call("release", 2)
                .call("flush", 1)
                .call("fetch", 3).call("release", 3)
                .call("fetch", 1).call("set", 0, 1, 0, 6).call("release", 1)
                .call("flush", 2)
                .call("fetch", 4)
                .frame(1, 1, 0, 1, 0, 2)
                .due(1, "clean", 1)
                .frame(1, 1, 0, 0, 0, 2)
                .due(6, "disk", 1, 0)
                .due(2, "count", 4);
        new Run("not in a frame", 2)
                .due(0, "clean", 0)
                .due(0, "clean", 31)
                .frame(0, Run.NONE, 0, 0, 0, 0)
                .due(0, "count", 5);
        new Run("no such page", 2)
                .argument("clean", -1)
                .argument("clean", 32)
                .argument("clean", Integer.MIN_VALUE)
                .argument("clean", Integer.MAX_VALUE);
        Run.finish();
    }
}
