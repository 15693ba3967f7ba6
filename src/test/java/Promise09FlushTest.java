public final class Promise09FlushTest {
    public static void main(String[] args) {
        new Run("up to an LSN", 2)
                .due(0, "flush", 0)
                .due(0, "flush", 7)
                .call("begin").call("fetch", 1)
                .call("set", 0, 1, 0, 1).call("set", 0, 1, 0, 2).call("set", 0, 1, 0, 3)
                .due(0, "flush", 0)
                .due(0, "count", 1)
                .due(2, "flush", 2)
                .due(2, "count", 1)
                .due(2, "flush", 1)
                .due(2, "flush", 0)
                .due(2, "count", 1)
                .due(3, "flush", 4)
                .due(3, "count", 1)
                .call("set", 0, 1, 0, 4)
                .due(3, "count", 1)
                .due(4, "flush", Integer.MAX_VALUE)
                .due(0, "disk", 1, 0)
                .frame(0, 1, 1, 1, 1, 4)
                .due(0, "count", 4);
        new Run("what a crash leaves", 2)
                .call("begin").call("fetch", 1)
                .call("set", 0, 1, 0, 1).call("set", 0, 1, 0, 2)
                .due(1, "flush", 1)
                .due(1, "crash")
                .due(3, "count", 1)
                .due(3, "flush", 0);
        new Run("below 0", 2)
                .argument("flush", -1)
                .argument("flush", Integer.MIN_VALUE)
                .call("begin").call("commit", 0)
                .argument("flush", -1);
        Run.finish();
    }
}
