public final class Promise15CountTest {
    public static void main(String[] args) {
        ClockPool pool = new ClockPool(2);
        if (pool.count(0) != 0) {
            System.exit(1);
        }
    }
}
