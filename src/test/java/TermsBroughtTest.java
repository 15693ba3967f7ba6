/** Terms: how a PAGE is BROUGHT, by an empty FRAME or by THE HAND. */
public final class TermsBroughtTest {
    public static void main(String[] args) {
        marksAgainWhatIsInAFrame();
        needsNoRoomForWhatIsInAFrame();
        takesTheLeastEmptyFrame();
        leavesTheHandWhileOneIsEmpty();
        startsTheHandAtFrameZero();
        takesWhereTheHandIsIfAllAreMarked();
        takesTheFirstOneWithoutAMark();
        wrapsTheHandBehindTheLastFrame();
        passesTheLastFrameIntoTheFirst();
        keepsTheHandOfASingleFrame();
        goesRoundEightFrames();
        goesTwoRoundsForTheFrameBehind();
        passesPinnedFramesThatKeepTheirMarks();
        passesFramesWithPinsLeft();
        passesDirtyFramesJustAboveFlushed();
        takesDirtyFramesJustAtFlushed();
        takesDirtyFramesBelowFlushed();
        passesByTheLastLsnOfAFrame();
        writesADirtyFrameThatItTakes();
        writesNoCleanFrameThatItTakes();
        cannotBringIfAllArePinned();
        cannotBringIfAllAreDirtyAboveFlushed();
        cannotBringIfEachIsOneOrTheOther();
        cannotBringIntoASingleFrame();
        bringsAgainOnceOneIsReleased();
        bringsAgainOnceOneIsFlushed();
        Run.finish();
    }

    /** So many frames with the pages 0 and on, without pins, all marked, the hand at 0. */
    private static Run filled(String title, int frames) {
        Run run = new Run(title, frames);
        for (int page = 0; page < frames; page++) {
            run.due(page, "fetch", page).due(0, "release", page);
        }
        return run;
    }

    private static void marksAgainWhatIsInAFrame() {
        filled("marked again", 3)
                .due(0, "fetch", 9).due(0, "release", 9)
                .frame(2, 2, 0, 0, 0, 0)
                .due(2, "fetch", 2)
                .frame(2, 2, 1, 0, 1, 0)
                .frame(1, 1, 0, 0, 0, 0)
                .due(1, "count", 3)
                .due(4, "count", 5)
                .due(0, "count", 4);
    }

    private static void needsNoRoomForWhatIsInAFrame() {
        new Run("all pinned", 2)
                .call("fetch", 4).call("fetch", 5)
                .full("fetch", 6)
                .due(0, "fetch", 4)
                .due(1, "fetch", 5)
                .frame(0, 4, 2, 0, 1, 0)
                .frame(1, 5, 2, 0, 1, 0)
                .due(2, "count", 5);
        new Run("dirty above FLUSHED", 1)
                .call("begin").call("fetch", 4).call("set", 0, 4, 0, 1).call("release", 4)
                .full("fetch", 6)
                .due(0, "fetch", 4)
                .frame(0, 4, 1, 1, 1, 1);
    }

    private static void takesTheLeastEmptyFrame() {
        Run run = new Run("eight empty ones", 8);
        for (int i = 0; i < 8; i++) {
            run.due(i, "fetch", 31 - i)
                    .frame(i, 31 - i, 1, 0, 1, 0);
            if (i < 7) {
                run.frame(i + 1, Run.NONE, 0, 0, 0, 0);
            }
        }
    }

    private static void leavesTheHandWhileOneIsEmpty() {
        new Run("the hand rests", 3)
                .due(0, "fetch", 1).due(0, "release", 1)
                .due(0, "count", 3)
                .due(1, "fetch", 2).due(0, "release", 2)
                .due(0, "count", 3)
                .frame(0, 1, 0, 0, 1, 0)
                .due(2, "fetch", 3)
                .due(0, "count", 3)
                .frame(0, 1, 0, 0, 1, 0)
                .frame(1, 2, 0, 0, 1, 0);
    }

    private static void startsTheHandAtFrameZero() {
        new Run("frame 0 first", 2)
                .due(0, "count", 3)
                .call("fetch", 1).call("release", 1).call("fetch", 2).call("release", 2)
                .due(0, "fetch", 3)
                .due(1, "count", 3);
    }

    private static void takesWhereTheHandIsIfAllAreMarked() {
        filled("all marked, the hand in the middle", 3)
                .due(0, "fetch", 9).due(0, "release", 9)
                .due(1, "fetch", 1).due(0, "release", 1)
                .due(2, "fetch", 2).due(0, "release", 2)
                .due(1, "count", 3)
                .due(1, "fetch", 8)
                .due(2, "count", 3)
                .frame(0, 9, 0, 0, 0, 0)
                .frame(1, 8, 1, 0, 1, 0)
                .frame(2, 2, 0, 0, 0, 0);
    }

    private static void takesTheFirstOneWithoutAMark() {
        filled("one marked between", 4)
                .due(0, "fetch", 9).due(0, "release", 9)
                .due(1, "fetch", 1).due(0, "release", 1)
                .due(1, "count", 3)
                .due(2, "fetch", 8)
                .due(3, "count", 3)
                .frame(0, 9, 0, 0, 1, 0)
                .frame(1, 1, 0, 0, 0, 0)
                .frame(2, 8, 1, 0, 1, 0)
                .frame(3, 3, 0, 0, 0, 0);
    }

    private static void wrapsTheHandBehindTheLastFrame() {
        filled("the last frame is taken", 2)
                .due(0, "fetch", 9)
                .due(1, "count", 3)
                .due(1, "fetch", 8)
                .due(0, "count", 3);
    }

    private static void passesTheLastFrameIntoTheFirst() {
        filled("the last frame is passed", 3)
                .due(0, "fetch", 7).due(0, "release", 7)
                .due(1, "fetch", 8).due(0, "release", 8)
                .due(2, "count", 3)
                .due(2, "fetch", 2)
                .due(0, "fetch", 9)
                .due(1, "count", 3)
                .frame(0, 9, 1, 0, 1, 0)
                .frame(1, 8, 0, 0, 0, 0)
                .frame(2, 2, 1, 0, 1, 0);
    }

    private static void keepsTheHandOfASingleFrame() {
        new Run("one frame", 1)
                .due(0, "fetch", 1).due(0, "release", 1)
                .due(0, "fetch", 2).due(0, "release", 2)
                .due(0, "count", 3)
                .due(0, "fetch", 3)
                .frame(0, 3, 1, 0, 1, 0)
                .due(0, "count", 3)
                .due(3, "count", 5);
    }

    private static void goesRoundEightFrames() {
        Run run = filled("eight frames", 8);
        for (int i = 0; i < 8; i++) {
            run.due(i, "fetch", 20 + i).due((i + 1) % 8, "count", 3).due(0, "release", 20 + i);
        }
        for (int i = 0; i < 8; i++) {
            run.frame(i, 20 + i, 0, 0, 1, 0);
        }
        run.due(0, "fetch", 30).due(1, "count", 3);
        for (int i = 1; i < 8; i++) {
            run.frame(i, 20 + i, 0, 0, 0, 0);
        }
    }

    // The hand is just behind the only frame that can be taken, and that one is marked: the first
    // round ends with its mark, the second with itself.
    private static void goesTwoRoundsForTheFrameBehind() {
        for (int frames = 1; frames <= 8; frames++) {
            Run run = filled("two whole rounds of " + frames, frames).due(0, "fetch", 20);
            for (int page = 1; page < frames; page++) {
                run.due(page, "fetch", page);
            }
            run.due(0, "release", 20)
                    .due(1 % frames, "count", 3)
                    .due(0, "fetch", 21)
                    .due(1 % frames, "count", 3)
                    .frame(0, 21, 1, 0, 1, 0);
            for (int page = 1; page < frames; page++) {
                run.frame(page, page, 1, 0, 1, 0);
            }
        }
    }

    private static void passesPinnedFramesThatKeepTheirMarks() {
        filled("a pinned frame first", 2)
                .due(0, "fetch", 0)
                .due(1, "fetch", 9)
                .due(0, "count", 3)
                .frame(0, 0, 1, 0, 1, 0)
                .frame(1, 9, 1, 0, 1, 0);
    }

    private static void passesFramesWithPinsLeft() {
        new Run("one of two pins is left", 1)
                .due(0, "fetch", 0).due(0, "fetch", 0).due(1, "release", 0)
                .full("fetch", 1)
                .due(0, "release", 0)
                .due(0, "fetch", 1);
    }

    private static void passesDirtyFramesJustAboveFlushed() {
        new Run("LSN 2, FLUSHED 1", 2)
                .call("begin").call("fetch", 0)
                .call("set", 0, 0, 0, 5).call("set", 0, 0, 0, 6).call("release", 0)
                .call("fetch", 1).call("release", 1)
                .due(1, "flush", 1)
                .due(1, "fetch", 2)
                .due(0, "count", 3)
                .frame(0, 0, 0, 1, 1, 2)
                .due(0, "disk", 0, 0)
                .due(0, "count", 4);
    }

    private static void takesDirtyFramesJustAtFlushed() {
        new Run("LSN 2, FLUSHED 2", 2)
                .call("begin").call("fetch", 0)
                .call("set", 0, 0, 0, 5).call("set", 0, 0, 0, 6).call("release", 0)
                .call("fetch", 1).call("release", 1)
                .due(2, "flush", 2)
                .due(0, "fetch", 2)
                .due(1, "count", 3)
                .frame(1, 1, 0, 0, 0, 0)
                .disk(0, 6, 0, 0, 0, 0, 0, 0, 0, 2)
                .due(1, "count", 4);
    }

    private static void takesDirtyFramesBelowFlushed() {
        new Run("LSN 1, FLUSHED 2", 1)
                .call("begin").call("fetch", 0).call("set", 0, 0, 0, 5).call("release", 0)
                .due(2, "commit", 0)
                .due(0, "fetch", 2)
                .disk(0, 5, 0, 0, 0, 0, 0, 0, 0, 1);
    }

    // An older LSN of the page is flushed, its own is not.
    private static void passesByTheLastLsnOfAFrame() {
        new Run("set again since", 1)
                .call("begin").call("fetch", 0).call("set", 0, 0, 0, 5)
                .due(1, "flush", 1).due(1, "clean", 0)
                .call("set", 0, 0, 1, 6).call("release", 0)
                .full("fetch", 1)
                .due(2, "flush", 2)
                .due(0, "fetch", 1)
                .disk(0, 5, 6, 0, 0, 0, 0, 0, 0, 2)
                .due(2, "count", 4);
    }

    private static void writesADirtyFrameThatItTakes() {
        new Run("written whole", 1)
                .call("begin").call("fetch", 3)
                .call("set", 0, 3, 0, -1).call("set", 0, 3, 7, Integer.MIN_VALUE)
                .call("release", 3).call("flush", 2)
                .disk(3, 0, 0, 0, 0, 0, 0, 0, 0, 0)
                .due(0, "fetch", 4)
                .disk(3, -1, 0, 0, 0, 0, 0, 0, Integer.MIN_VALUE, 2)
                .disk(4, 0, 0, 0, 0, 0, 0, 0, 0, 0)
                .frame(0, 4, 1, 0, 1, 0)
                .due(0, "get", 4, 7)
                .state("get", 3, 7)
                .due(1, "count", 4)
                .due(0, "release", 4)
                .due(0, "fetch", 3)
                .due(Integer.MIN_VALUE, "get", 3, 7)
                .frame(0, 3, 1, 0, 1, 2);
    }

    private static void writesNoCleanFrameThatItTakes() {
        new Run("clean since", 1)
                .call("begin").call("fetch", 3).call("set", 0, 3, 0, 5).call("flush", 1)
                .due(1, "clean", 3).due(1, "count", 4)
                .call("release", 3)
                .due(0, "fetch", 4)
                .due(1, "count", 4);
    }

    // The hand stands at 1, so that a hand that was moved or set back would be seen.
    private static void cannotBringIfAllArePinned() {
        filled("all pinned", 3)
                .due(0, "fetch", 9).due(1, "fetch", 1).due(2, "fetch", 2)
                .due(1, "count", 3)
                .full("fetch", 8)
                .due(1, "count", 3)
                .due(0, "release", 2)
                .due(2, "fetch", 8)
                .due(0, "count", 3);
    }

    private static void cannotBringIfAllAreDirtyAboveFlushed() {
        filled("all dirty", 3)
                .due(0, "begin")
                .due(0, "fetch", 9).due(1, "fetch", 1).due(2, "fetch", 2)
                .due(1, "set", 0, 1, 0, 5).due(2, "set", 0, 2, 0, 5).due(3, "set", 0, 9, 0, 5)
                .due(0, "release", 9).due(0, "release", 1).due(0, "release", 2)
                .due(1, "count", 3)
                .full("fetch", 8)
                .frame(0, 9, 0, 1, 1, 3)
                .frame(1, 1, 0, 1, 1, 1)
                .frame(2, 2, 0, 1, 1, 2)
                .due(1, "count", 3);
    }

    private static void cannotBringIfEachIsOneOrTheOther() {
        filled("pinned, dirty, or both", 3)
                .due(0, "begin")
                .due(0, "fetch", 9).due(1, "fetch", 1).due(2, "fetch", 2)
                .due(1, "set", 0, 1, 0, 5).due(2, "set", 0, 2, 0, 5)
                .due(0, "release", 1)
                .full("fetch", 8)
                .due(2, "flush", 2)
                .due(0, "release", 9)
                .due(1, "fetch", 8);
    }

    private static void cannotBringIntoASingleFrame() {
        new Run("one frame, pinned", 1)
                .due(0, "fetch", 1)
                .full("fetch", 0)
                .full("fetch", 31)
                .frame(0, 1, 1, 0, 1, 0);
    }

    private static void bringsAgainOnceOneIsReleased() {
        new Run("released", 2)
                .call("fetch", 1).call("fetch", 2)
                .full("fetch", 3)
                .due(0, "release", 2)
                .due(1, "fetch", 3)
                .due(0, "count", 3)
                .full("fetch", 2);
    }

    private static void bringsAgainOnceOneIsFlushed() {
        new Run("flushed", 2)
                .call("begin")
                .call("fetch", 1).call("set", 0, 1, 0, 5).call("release", 1)
                .call("fetch", 2).call("set", 0, 2, 0, 6).call("release", 2)
                .full("fetch", 3)
                .due(1, "flush", 1)
                .due(0, "fetch", 3)
                .frame(1, 2, 0, 1, 1, 2)
                .full("fetch", 1)
                .due(2, "flush", 2)
                .due(1, "fetch", 1);
    }
}
