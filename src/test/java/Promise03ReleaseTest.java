public final class Promise03ReleaseTest {
    public static void main(String[] args) {
        new Run("pins one by one", 2)
                .call("fetch", 9).call("fetch", 9).call("fetch", 9).call("fetch", 4)
                .due(2, "release", 9)
                .frame(0, 9, 2, 0, 1, 0)
                .due(1, "release", 9)
                .due(0, "release", 9)
                .frame(0, 9, 0, 0, 1, 0)
                .frame(1, 4, 1, 0, 1, 0)
                .state("release", 9)
                .due(0, "release", 4);
        new Run("no pins", 2)
                .state("release", 0)
                .call("fetch", 1).call("crash")
                .state("release", 1);
        new Run("taken out", 1)
                .call("fetch", 1).call("release", 1).call("fetch", 2)
                .state("release", 1)
                .due(0, "release", 2);
        new Run("no such page", 2)
                .argument("release", -1)
                .argument("release", 32)
                .argument("release", Integer.MIN_VALUE)
                .argument("release", Integer.MAX_VALUE);
        Run.finish();
    }
}
