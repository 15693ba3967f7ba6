public final class Promise13FrameTest {
    public static void main(String[] args) {
        new Run("all of a frame", 2)
                .frame(0, Run.NONE, 0, 0, 0, 0)
                .call("fetch", 8).call("fetch", 8)
                .frame(0, 8, 2, 0, 1, 0)
                .call("begin").call("commit", 0).call("begin").call("set", 0, 8, 0, 4)
                .frame(0, 8, 2, 1, 1, 2)
                .frame(1, Run.NONE, 0, 0, 0, 0)
                .call("flush", 2).call("clean", 8)
                .frame(0, 8, 2, 0, 1, 2)
                .call("release", 8).call("release", 8)
                .call("fetch", 9).call("fetch", 10)
                .frame(0, 10, 1, 0, 1, 0)
                .call("release", 10)
                .due(0, "fetch", 8)
                .frame(0, 8, 1, 0, 1, 2);
        new Run("no longer marked", 2)
                .call("fetch", 1).call("release", 1).call("fetch", 2).call("release", 2)
                .call("fetch", 3)
                .frame(1, 2, 0, 0, 0, 0);
        new Run("no such frame", 3)
                .due(Run.NONE, "frame", 2, 0)
                .argument("frame", 3, 0)
                .argument("frame", 8, 0)
                .argument("frame", -1, 0)
                .argument("frame", Integer.MIN_VALUE, 0)
                .argument("frame", Integer.MAX_VALUE, 0)
                .argument("frame", 0, 5)
                .argument("frame", 0, -1)
                .argument("frame", 0, Integer.MIN_VALUE)
                .argument("frame", 0, Integer.MAX_VALUE)
                .argument("frame", 3, 5);
        Run.finish();
    }
}
