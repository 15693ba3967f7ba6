public final class Promise12DiskTest {
    public static void main(String[] args) {
        Run run = new Run("numbers and LSN", 2).call("begin").call("fetch", 31);
        for (int k = 0; k < 8; k++) {
            run.due(k + 1, "set", 0, 31, k, 10 * k + 1);
        }
        run.disk(31, 0, 0, 0, 0, 0, 0, 0, 0, 0)
                .due(8, "flush", 8)
                .disk(31, 0, 0, 0, 0, 0, 0, 0, 0, 0)
                .due(1, "clean", 31)
                .disk(31, 1, 11, 21, 31, 41, 51, 61, 71, 8)
                .disk(30, 0, 0, 0, 0, 0, 0, 0, 0, 0)
                .due(9, "set", 0, 31, 0, 99)
                .disk(31, 1, 11, 21, 31, 41, 51, 61, 71, 8);
        new Run("no such number", 2)
                .argument("disk", 0, -1)
                .argument("disk", 0, 9)
                .argument("disk", -1, 0)
                .argument("disk", 32, 0)
                .argument("disk", Integer.MIN_VALUE, 0)
                .argument("disk", Integer.MAX_VALUE, 8)
                .argument("disk", 0, Integer.MIN_VALUE)
                .argument("disk", 0, Integer.MAX_VALUE);
        Run.finish();
    }
}
