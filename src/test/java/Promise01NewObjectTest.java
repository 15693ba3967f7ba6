public final class Promise01NewObjectTest {
    public static void main(String[] args) {
        hasAsManyFramesAsTold();
        takesOneFrameForLess();
        takesEightFramesForMore();
        isEmpty();
        objectsAreApart();
        Run.holds("NONE is -1", ClockPool.NONE == -1);
        Run.holds("FULL is -2", ClockPool.FULL == -2);
        Run.finish();
    }

    private static void hasAsManyFramesAsTold() {
        for (int frames = 1; frames <= 8; frames++) {
            hasFrames(frames, frames);
        }
    }

    private static void takesOneFrameForLess() {
        hasFrames(0, 1);
        hasFrames(-1, 1);
        hasFrames(-8, 1);
        hasFrames(Integer.MIN_VALUE, 1);
    }

    private static void takesEightFramesForMore() {
        hasFrames(9, 8);
        hasFrames(20, 8);
        hasFrames(Integer.MAX_VALUE, 8);
    }

    private static void hasFrames(int told, int frames) {
        Run run = new Run("frames " + told, told);
        for (int i = 0; i < frames; i++) {
            run.frame(i, Run.NONE, 0, 0, 0, 0);
        }
        run.argument("frame", frames, 0);
        for (int page = 0; page < frames; page++) {
            run.due(page, "fetch", page);
        }
        run.full("fetch", frames);
    }

    private static void isEmpty() {
        Run run = new Run("a new object", 3);
        for (int what = 0; what < 8; what++) {
            run.due(0, "count", what);
        }
        for (int page = 0; page < 32; page++) {
            run.disk(page, 0, 0, 0, 0, 0, 0, 0, 0, 0);
        }
        for (int t = 0; t < 8; t++) {
            run.state("commit", t).state("abort", t);
        }
        run.argument("log", 1, 0);
        for (int page = 0; page < 32; page++) {
            run.state("release", page);
        }
    }

    private static void objectsAreApart() {
        ClockPool one = new ClockPool(2);
        ClockPool other = new ClockPool(2);
        one.fetch(4);
        one.begin();
        one.set(0, 4, 1, 9);
        one.commit(0);
        one.clean(4);
        Run.holds("the other's disk", other.disk(4, 1) == 0 && one.disk(4, 1) == 9);
        Run.holds("the other's frame", other.frame(0, 0) == ClockPool.NONE);
        Run.holds("the other's log", other.count(0) == 0);
        Run.holds("the other's transactions", other.begin() == 0);
    }
}
