import java.util.Random;

/**
 * The document's first sentence, on mixed runs and without looking into the log: a pinned page stays
 * in its frame, no page is written before its records are flushed, and behind a crash the disk has
 * what was committed and nothing else. Each transaction changes the number of its own number only,
 * so that what is undone of one never meets what another did.
 */
public final class WhatItIsTest {
    private static final int RUNS = 1500;
    private static final int PAGES = 6;
    private static final int TRANSACTIONS = 8;
    // A crash and the looks at all numbers behind it.
    private static final int LAST_CALLS = 1 + PAGES * TRANSACTIONS;

    private final String title;
    private final Random random;
    private final ClockPool pool;
    private final int[] pins = new int[PAGES];
    private final int[] frameOf = new int[PAGES];
    private final int[][] committed = new int[PAGES][TRANSACTIONS];
    private final int[][] current = new int[PAGES][TRANSACTIONS];
    private final boolean[] abortBegun = new boolean[TRANSACTIONS];
    private int calls = 0;

    private WhatItIsTest(int seed) {
        // Fixed seeds: a run that fails once fails again.
        random = new Random(seed);
        title = "seed " + seed;
        pool = new ClockPool(1 + random.nextInt(4));
    }

    public static void main(String[] args) {
        for (int seed = 0; seed < RUNS; seed++) {
            new WhatItIsTest(seed).run();
        }
        Run.finish();
    }

    private void run() {
        int crashIn = 20 + random.nextInt(150);
        while (calls + 6 + 2 * LAST_CALLS < Run.MOST_CALLS) {
            if (crashIn-- == 0) {
                leavesWhatWasCommitted();
                crashIn = 20 + random.nextInt(150);
            }
            goOn(random.nextInt(PAGES), random.nextInt(TRANSACTIONS));
            keepsPinnedPagesInTheirFrames(random.nextInt(PAGES));
            writesNoPageBeforeItsRecords(random.nextInt(PAGES));
            showsWhatWasSet(random.nextInt(PAGES), random.nextInt(TRANSACTIONS));
        }
        leavesWhatWasCommitted();
        Run.holds(title + " has " + calls + " calls", calls <= Run.MOST_CALLS);
    }

    private String ask(String name, int... args) {
        calls++;
        return new Run.Call(name, args).answerOf(pool);
    }

    private static boolean isNumber(String answer) {
        return !answer.startsWith("throws.") && Integer.parseInt(answer) >= 0;
    }

    private void goOn(int page, int transaction) {
        switch (random.nextInt(12)) {
            case 0, 1 -> fetch(page);
            case 2 -> release(page);
            case 3 -> ask("begin");
            case 4, 5, 6, 7 -> set(transaction, page, random.nextInt());
            case 8 -> commit(transaction);
            case 9 -> abort(transaction);
            case 10 -> ask("flush", random.nextInt(200));
            default -> ask("clean", page);
        }
    }

    private void fetch(int page) {
        String answer = ask("fetch", page);
        if (isNumber(answer)) {
            pins[page]++;
            frameOf[page] = Integer.parseInt(answer);
        }
    }

    private void release(int page) {
        if (isNumber(ask("release", page))) {
            pins[page]--;
        }
    }

    private void set(int transaction, int page, int value) {
        if (isNumber(ask("set", transaction, page, transaction, value))) {
            current[page][transaction] = value;
        }
    }

    private void commit(int transaction) {
        if (isNumber(ask("commit", transaction))) {
            copy(transaction, current, committed);
        }
    }

    private void abort(int transaction) {
        String answer = ask("abort", transaction);
        if (isNumber(answer)) {
            copy(transaction, committed, current);
            abortBegun[transaction] = false;
        } else if (answer.equals(String.valueOf(Run.FULL))) {
            abortBegun[transaction] = true;
        }
    }

    private static void copy(int transaction, int[][] from, int[][] to) {
        for (int page = 0; page < PAGES; page++) {
            to[page][transaction] = from[page][transaction];
        }
    }

    private void keepsPinnedPagesInTheirFrames(int page) {
        if (pins[page] > 0) {
            String held = ask("frame", frameOf[page], 0);
            Run.holds(title + ", call " + calls + ": the frame of page " + page + " has " + held,
                    held.equals(String.valueOf(page)));
        }
    }

    private void writesNoPageBeforeItsRecords(int page) {
        String lsn = ask("disk", page, 8);
        String flushed = ask("count", 1);
        Run.holds(title + ", call " + calls + ": page " + page + " is written with LSN " + lsn
                + ", flushed is " + flushed, Integer.parseInt(lsn) <= Integer.parseInt(flushed));
    }

    // How much an abort that was begun has undone is for other tests.
    private void showsWhatWasSet(int page, int transaction) {
        if (pins[page] > 0 && !abortBegun[transaction]) {
            due(current[page][transaction], "get", page, transaction);
        }
    }

    private void leavesWhatWasCommitted() {
        ask("crash");
        for (int page = 0; page < PAGES; page++) {
            pins[page] = 0;
            for (int transaction = 0; transaction < TRANSACTIONS; transaction++) {
                due(committed[page][transaction], "disk", page, transaction);
                current[page][transaction] = committed[page][transaction];
                abortBegun[transaction] = false;
            }
        }
    }

    private void due(int due, String name, int... args) {
        String answer = ask(name, args);
        Run.holds(title + ", call " + calls + ": " + new Run.Call(name, args).text() + " answered "
                + answer + ", due is " + due, answer.equals(String.valueOf(due)));
    }
}
