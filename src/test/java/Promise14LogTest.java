public final class Promise14LogTest {
    public static void main(String[] args) {
        new Run("every kind of record", 2)
                .call("begin").call("begin").call("fetch", 30)
                .call("set", 1, 30, 7, -1)
                .call("set", 0, 30, 6, 25)
                .call("commit", 0)
                .call("abort", 1)
                .log(1, 0, 1, 30, 7, 0, -1, Run.NONE)
                .log(2, 0, 0, 30, 6, 0, 25, Run.NONE)
                .log(3, 2, 0, Run.NONE, Run.NONE, Run.NONE, Run.NONE, Run.NONE)
                .log(4, 1, 1, 30, 7, -1, 0, 1)
                .log(5, 3, 1, Run.NONE, Run.NONE, Run.NONE, Run.NONE, Run.NONE)
                .argument("log", 6, 0);
        new Run("no such record", 2)
                .argument("log", 0, 0)
                .argument("log", 1, 0)
                .call("begin").call("commit", 0)
                .due(2, "log", 1, 0)
                .argument("log", 0, 0)
                .argument("log", -1, 0)
                .argument("log", 2, 0)
                .argument("log", 400, 0)
                .argument("log", 401, 0)
                .argument("log", Integer.MIN_VALUE, 0)
                .argument("log", Integer.MAX_VALUE, 0)
                .argument("log", 1, -1)
                .argument("log", 1, 7)
                .argument("log", 1, Integer.MIN_VALUE)
                .argument("log", 1, Integer.MAX_VALUE);
        new Run("gone by a crash", 2)
                .call("begin").call("fetch", 0).call("set", 0, 0, 0, 1)
                .due(0, "log", 1, 0)
                .call("crash")
                .argument("log", 1, 0);
        Run.finish();
    }
}
