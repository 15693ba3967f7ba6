/** Terms: THE LOG with its RECORDS, and FLUSHED. */
public final class TermsLogTest {
    public static void main(String[] args) {
        isEmptyAtFirst();
        numbersFromOneOn();
        numbersWithoutGaps();
        numbersAnewWhatIsGone();
        isAtItsFullest();
        leavesNothingWithNothingFlushed();
        leavesOneWithOneFlushed();
        leavesAllButTheLast();
        leavesAllWithAllFlushed();
        Run.finish();
    }

    private static void isEmptyAtFirst() {
        new Run("an empty log", 1)
                .due(0, "count", 0)
                .due(0, "count", 1)
                .argument("log", 0, 0)
                .argument("log", 1, 0)
                .due(0, "flush", 1)
                .due(0, "crash");
    }

    private static void numbersFromOneOn() {
        new Run("the first record is a COMMIT", 1)
                .call("begin").due(1, "commit", 0).due(2, "log", 1, 0).argument("log", 0, 0);
        new Run("the first record is an UPDATE", 1)
                .call("begin").call("fetch", 0).due(1, "set", 0, 0, 0, 5).due(0, "log", 1, 0);
        new Run("the first record is an END", 1)
                .call("begin").due(0, "abort", 0).due(3, "log", 1, 0).due(1, "count", 0);
    }

    private static void numbersWithoutGaps() {
        new Run("every kind takes one number", 1)
                .call("begin").call("begin").call("fetch", 0)
                .due(1, "set", 0, 0, 0, 5)
                .due(2, "set", 1, 0, 1, 6)
                .due(1, "abort", 0)
                .due(4, "count", 0)
                .due(5, "set", 1, 0, 1, 7)
                .due(6, "commit", 1)
                .due(0, "begin")
                .due(7, "commit", 0);
    }

    private static void numbersAnewWhatIsGone() {
        new Run("numbers of records that are gone", 1)
                .call("begin").call("fetch", 0)
                .due(1, "set", 0, 0, 0, 5).due(2, "commit", 0)
                .call("begin")
                .due(3, "set", 0, 0, 0, 6).due(4, "set", 0, 0, 0, 7)
                .due(2, "crash")
                .call("begin").call("fetch", 0)
                .due(3, "set", 0, 0, 1, 8)
                .log(3, 0, 0, 0, 1, 0, 8, Run.NONE)
                .argument("log", 4, 0)
                .frame(0, 0, 1, 1, 1, 3);
    }

    // begin and set always keep one record free, so that 399 are the most there can be.
    private static void isAtItsFullest() {
        Run run = new Run("399 records", 1).call("fetch", 0);
        Promise05BeginTest.fill(run, 398);
        run.due(0, "begin")
                .full("set", 0, 0, 0, 5)
                .due(399, "commit", 0)
                .due(399, "count", 0)
                .due(399, "count", 1)
                .log(399, 2, 0, Run.NONE, Run.NONE, Run.NONE, Run.NONE, Run.NONE)
                .argument("log", 400, 0)
                .argument("log", 401, 0)
                .full("begin")
                .due(399, "flush", 400)
                .due(0, "crash")
                .due(399, "count", 0);
    }

    private static void leavesNothingWithNothingFlushed() {
        threeUpdates("nothing flushed")
                .due(0, "flush", 0)
                .due(3, "crash")
                .due(0, "count", 0)
                .argument("log", 1, 0)
                .disk(0, 0, 0, 0, 0, 0, 0, 0, 0, 0);
    }

    private static void leavesOneWithOneFlushed() {
        threeUpdates("one flushed")
                .due(1, "flush", 1)
                .due(2, "crash")
                .log(1, 0, 0, 0, 0, 0, 5, Run.NONE)
                .log(2, 1, 0, 0, 0, 5, 0, 1)
                .log(3, 3, 0)
                .due(3, "count", 0);
    }

    private static void leavesAllButTheLast() {
        threeUpdates("two of three flushed")
                .due(2, "flush", 2)
                .due(1, "crash")
                .log(2, 0, 0, 0, 1, 0, 6, Run.NONE)
                .log(3, 1, 0, 0, 1, 6, 0, 2)
                .due(5, "count", 0);
    }

    private static void leavesAllWithAllFlushed() {
        threeUpdates("all flushed")
                .due(3, "flush", 3)
                .due(0, "crash")
                .log(3, 0, 0, 0, 2, 0, 7, Run.NONE)
                .log(4, 1, 0, 0, 2, 7, 0, 3)
                .due(7, "count", 0);
    }

    private static Run threeUpdates(String title) {
        return new Run(title, 1).call("begin").call("fetch", 0)
                .due(1, "set", 0, 0, 0, 5).due(2, "set", 0, 0, 1, 6).due(3, "set", 0, 0, 2, 7);
    }
}
