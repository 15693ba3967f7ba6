import java.util.Random;

/** Long runs of mixed calls, each answer compared with the model's. */
public final class ModelTest {
    private static final int RUNS = 4000;
    private static final String[] LOOKS = {"get", "disk", "frame", "log", "count"};
    private static final int[] EDGES = {-1, 8, 9, 31, 32, 33, 400, Integer.MIN_VALUE, Integer.MAX_VALUE};

    // Fixed seeds: a run that fails once fails again.
    private final Random random;
    private final int frames;
    private final int pages;
    private final int transactions;
    private final int wrongOnes;
    private final int[] weights;
    private final ClockPool pool;
    private final Model model;

    private static final String[] DEEDS = {
        "fetch", "release", "begin", "set", "commit", "abort", "flush", "clean", "crash", "look"};

    private ModelTest(int seed) {
        random = new Random(seed);
        // Few pages, transactions and releases let most sets succeed, so that the log fills up.
        boolean fillsTheLog = seed % 3 == 0;
        frames = 1 + random.nextInt(random.nextBoolean() ? 3 : 8);
        pages = 1 + random.nextInt(fillsTheLog ? 3 : random.nextBoolean() ? 6 : 32);
        transactions = 1 + random.nextInt(random.nextBoolean() ? 2 : 8);
        wrongOnes = random.nextInt(3) == 0 ? 10 : 100;
        pool = new ClockPool(frames);
        model = new Model(frames);
        weights = fillsTheLog
                ? new int[] {60, 5, 60, 600, 4, 6, 10, 10, 1, 60}
                : new int[] {100, 80, 30, 120, 20, 25, 20, 20, 1 + random.nextInt(15), 200};
    }

    public static void main(String[] args) {
        int fullSets = 0;
        for (int seed = 0; seed < RUNS; seed++) {
            fullSets += new ModelTest(seed).run(seed);
        }
        Run.holds("the runs find the log full often: " + fullSets, fullSets >= 1000);
        Run.finish();
    }

    /** Answers how many sets found the log full. */
    private int run(int seed) {
        int fullSets = 0;
        for (int i = 1; i <= Run.MOST_CALLS; i++) {
            Run.Call call = next();
            String due = model.answer(call);
            String answer = call.answerOf(pool);
            Run.holds("seed " + seed + ", call " + i + ": " + call.text() + " answered " + answer
                    + ", due is " + due, answer.equals(due));
            if (!answer.equals(due)) {
                break;
            }
            if (call.name().equals("set") && due.equals(String.valueOf(Run.FULL))) {
                fullSets++;
            }
        }
        return fullSets;
    }

    private Run.Call next() {
        String deed = DEEDS[weighted()];
        return switch (deed) {
            case "begin", "crash" -> new Run.Call(deed);
            case "set" -> new Run.Call(deed, number(transactions), number(pages), number(8), random.nextInt(50));
            case "commit", "abort" -> new Run.Call(deed, number(transactions));
            case "flush" -> new Run.Call(deed, number(model.records() + 2));
            case "look" -> look(LOOKS[random.nextInt(LOOKS.length)]);
            default -> new Run.Call(deed, number(pages));
        };
    }

    private Run.Call look(String name) {
        return switch (name) {
            case "get" -> new Run.Call(name, number(pages), number(8));
            case "disk" -> new Run.Call(name, number(pages), number(9));
            case "frame" -> new Run.Call(name, number(frames), number(5));
            case "log" -> new Run.Call(name, number(model.records() + 2), number(7));
            default -> new Run.Call(name, number(8));
        };
    }

    private int weighted() {
        int sum = 0;
        for (int weight : weights) {
            sum += weight;
        }
        int left = random.nextInt(sum);
        int at = 0;
        while (left >= weights[at]) {
            left -= weights[at];
            at++;
        }
        return at;
    }

    private int number(int bound) {
        return random.nextInt(wrongOnes) == 0 ? EDGES[random.nextInt(EDGES.length)] : random.nextInt(bound);
    }
}
