import java.util.ArrayList;
import java.util.List;

/**
 * A run of calls on a new object, each with the answer that is due. An answer is written as text:
 * a number (a boolean counts 1 or 0), or throws. and the exception's name.
 *
 * What may change nothing is checked by looking at everything before and after it. The looking is
 * done on other objects that are made by the same calls, as one object is used for 512 calls only.
 */
final class Run {
    static final int NONE = ClockPool.NONE;
    static final int FULL = ClockPool.FULL;
    static final int MOST_CALLS = 512;

    private static final String ARGUMENT = "throws.IllegalArgumentException";
    private static final String STATE = "throws.IllegalStateException";

    private static int checked = 0;
    private static int wrong = 0;

    private final String title;
    private final int frames;
    private final ClockPool pool;
    private final List<Call> made = new ArrayList<>();

    /** One call by its name and its arguments. */
    record Call(String name, int... args) {
        String text() {
            StringBuilder text = new StringBuilder(name).append('(');
            for (int i = 0; i < args.length; i++) {
                text.append(i == 0 ? "" : ", ").append(args[i]);
            }
            return text.append(')').toString();
        }

        String answerOf(ClockPool pool) {
            try {
                return String.valueOf(numberOf(pool));
            } catch (RuntimeException e) {
                return "throws." + e.getClass().getSimpleName();
            }
        }

        private int numberOf(ClockPool pool) {
            return switch (name) {
                case "fetch" -> pool.fetch(args[0]);
                case "release" -> pool.release(args[0]);
                case "get" -> pool.get(args[0], args[1]);
                case "begin" -> pool.begin();
                case "set" -> pool.set(args[0], args[1], args[2], args[3]);
                case "commit" -> pool.commit(args[0]);
                case "abort" -> pool.abort(args[0]);
                case "flush" -> pool.flush(args[0]);
                case "clean" -> pool.clean(args[0]) ? 1 : 0;
                case "crash" -> pool.crash();
                case "disk" -> pool.disk(args[0], args[1]);
                case "frame" -> pool.frame(args[0], args[1]);
                case "log" -> pool.log(args[0], args[1]);
                case "count" -> pool.count(args[0]);
                default -> throw new AssertionError(name);
            };
        }
    }

    Run(String title, int frames) {
        this.title = title;
        this.frames = frames;
        this.pool = new ClockPool(frames);
    }

    Run due(int answer, String name, int... args) {
        check(new Call(name, args), String.valueOf(answer));
        return this;
    }

    /** A call that is made for what it changes: another row looks at its answer. */
    Run call(String name, int... args) {
        Call call = new Call(name, args);
        made.add(call);
        call.answerOf(pool);
        return this;
    }

    Run argument(String name, int... args) {
        return unchanged(ARGUMENT, name, args);
    }

    Run state(String name, int... args) {
        return unchanged(STATE, name, args);
    }

    /** A call that is FULL and changes nothing. */
    Run full(String name, int... args) {
        return unchanged(String.valueOf(FULL), name, args);
    }

    /** All that frame tells of a frame: its page, pins, dirty, marked, LSN. */
    Run frame(int frame, int... due) {
        return all("frame", frame, due);
    }

    /** All that log tells of a record: kind, transaction, page, number, was, becomes, undoes. */
    Run log(int lsn, int... due) {
        return all("log", lsn, due);
    }

    /** All numbers of a page on the disk and its LSN. */
    Run disk(int page, int... due) {
        return all("disk", page, due);
    }

    private Run all(String name, int which, int... due) {
        for (int what = 0; what < due.length; what++) {
            due(due[what], name, which, what);
        }
        return this;
    }

    private Run unchanged(String answer, String name, int... args) {
        // The same for before and after, though one call lies between them.
        int counts = Math.max(0, Math.min(8, MOST_CALLS - made.size() - 2));
        String before = everything(counts);
        check(new Call(name, args), answer);
        String after = everything(counts);
        checked++;
        if (!before.equals(after)) {
            tell(new Call(name, args).text() + " changed something");
        }
        return this;
    }

    private void check(Call call, String due) {
        made.add(call);
        String answer = call.answerOf(pool);
        checked++;
        if (!answer.equals(due)) {
            tell("call " + made.size() + ", " + call.text() + " answered " + answer + ", due is " + due);
        }
        if (made.size() > MOST_CALLS) {
            tell("the run has more than " + MOST_CALLS + " calls");
        }
    }

    private void tell(String what) {
        wrong++;
        System.out.println(title + ": " + what);
    }

    private ClockPool again() {
        ClockPool other = new ClockPool(frames);
        for (Call call : made) {
            call.answerOf(other);
        }
        return other;
    }

    private String everything(int counts) {
        StringBuilder seen = new StringBuilder();
        ClockPool other = again();
        int used = made.size();
        for (Call look : looks()) {
            if (used >= MOST_CALLS) {
                other = again();
                used = made.size();
            }
            seen.append(look.text()).append(look.answerOf(other)).append('\n');
            used++;
        }
        for (Call next : nexts()) {
            seen.append(next.text()).append(whatFollows(next, counts)).append('\n');
        }
        return seen.toString();
    }

    // Which transactions are active, of which an abort was begun, what would be undone: only what
    // these calls do shows it.
    private static List<Call> nexts() {
        List<Call> nexts = new ArrayList<>(List.of(new Call("begin"), new Call("crash")));
        for (int t = 0; t < 8; t++) {
            nexts.add(new Call("commit", t));
            nexts.add(new Call("abort", t));
        }
        return nexts;
    }

    private String whatFollows(Call next, int counts) {
        ClockPool other = again();
        StringBuilder seen = new StringBuilder(next.answerOf(other));
        for (int what = 0; what < counts; what++) {
            seen.append(' ').append(other.count(what));
        }
        return seen.toString();
    }

    private List<Call> looks() {
        List<Call> looks = new ArrayList<>();
        grid(looks, "frame", 0, 8, 5);
        grid(looks, "disk", 0, 32, 9);
        grid(looks, "get", 0, 32, 8);
        grid(looks, "log", 1, again().count(0), 7);
        for (int what = 0; what < 8; what++) {
            looks.add(new Call("count", what));
        }
        return looks;
    }

    private static void grid(List<Call> looks, String name, int from, int rows, int columns) {
        for (int row = from; row < from + rows; row++) {
            for (int column = 0; column < columns; column++) {
                looks.add(new Call(name, row, column));
            }
        }
    }

    /** A check that is no call. */
    static void holds(String what, boolean held) {
        checked++;
        if (!held) {
            wrong++;
            System.out.println(what);
        }
    }

    /** To be called last by every test: tells the outcome by the exit code. */
    static void finish() {
        System.out.println(checked + " checks, " + wrong + " wrong");
        if (wrong != 0 || checked == 0) {
            System.exit(1);
        }
    }
}
