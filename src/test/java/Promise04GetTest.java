public final class Promise04GetTest {
    public static void main(String[] args) {
        readsTheFrame();
        refuses();
        Run.finish();
    }

    private static void readsTheFrame() {
        Run run = new Run("numbers", 2).call("begin").call("fetch", 6);
        for (int k = 0; k < 8; k++) {
            run.due(0, "get", 6, k).call("set", 0, 6, k, 100 + k);
        }
        for (int k = 0; k < 8; k++) {
            run.due(100 + k, "get", 6, k).due(0, "disk", 6, k);
        }
        run.call("set", 0, 6, 0, Integer.MIN_VALUE).due(Integer.MIN_VALUE, "get", 6, 0)
                .call("set", 0, 6, 0, Integer.MAX_VALUE).due(Integer.MAX_VALUE, "get", 6, 0)
                .due(1, "frame", 0, 1);
    }

    private static void refuses() {
        new Run("no pins", 2)
                .state("get", 0, 0)
                .call("fetch", 0).call("release", 0)
                .state("get", 0, 0)
                .call("fetch", 0)
                .due(0, "get", 0, 0)
                .call("crash")
                .state("get", 0, 7);
        new Run("no such number", 2)
                .call("fetch", 0)
                .argument("get", 0, -1)
                .argument("get", 0, 8)
                .argument("get", 0, Integer.MIN_VALUE)
                .argument("get", 0, Integer.MAX_VALUE)
                .argument("get", -1, 0)
                .argument("get", 32, 0);
        new Run("IllegalArgument wins", 2)
                .argument("get", 3, 8)
                .argument("get", 3, -1);
    }
}
