/** Boundary cases of promise 12: stage. */
final class Promise12Stage extends Puzzles {
    @Says("its number")
    static void theFirstToTheEighth() {
        StageRows x = new StageRows(3, 1);
        for (int stage = 0; stage < 8; stage++) {
            Check.noSuch("run before", runOf(x, stage));
            Check.due("stage()", x.stage(), stage);
            Check.due("run", x.run(stage), 0);
        }
    }

    private static Check.Call runOf(StageRows x, int stage) {
        return () -> x.run(stage);
    }

    @Says("-1 when there are 8")
    static void theNinthIsRefused() {
        StageRows x = new StageRows(3, 1);
        stages(x, 8);
        for (int i = 0; i < 3; i++) {
            Check.due("stage()", x.stage(), -1);
        }
        noneOutside("run", 8, x::run);
    }

    @Says("-1 when there are 8")
    static void theNinthLeavesTheEight() {
        StageRows x = neighbourWords();
        stages(x, 8);
        for (int stage = 0; stage < 8; stage++) {
            x.goal(stage, 0, true);
            x.use(stage, 0);
        }
        Check.due("stage()", x.stage(), -1);
        for (int stage = 0; stage < 8; stage++) {
            Check.due("the goal is so already", x.goal(stage, 0, true), false);
            x.swap(0, 1);
            Check.due("the word is there", x.run(stage), 1);
        }
    }

    @Says("A stage without goal and words")
    static void withoutGoal() {
        StageRows x = new StageRows(7, 1);
        stages(x, 8);
        for (int stage = 0; stage < 8; stage++) {
            for (int piece = 0; piece < 7; piece++) {
                Check.due("of no goal", x.goal(stage, piece, false), false);
            }
        }
    }

    @Says("A stage without goal and words")
    static void withoutWords() {
        StageRows x = neighbourWords();
        stages(x, 8);
        x.swap(0, 1);
        for (int stage = 0; stage < 8; stage++) {
            x.goal(stage, 0, true);
            Check.due("no word to try", x.run(stage), -1);
        }
    }

    @Says("A stage without goal and words")
    static void nothingIsLeftOfAStageThatIsGone() {
        StageRows x = neighbourWords();
        stages(x, 8);
        for (int stage = 0; stage < 8; stage++) {
            x.goal(stage, 0, true);
            for (int i = 0; i < 12; i++) {
                x.use(stage, 0);
            }
        }
        x.exchange(5, 0, 1);
        reads(x, "a", 0);
        x.swap(0, 1);
        for (int stage = 0; stage < 8; stage++) {
            Check.due("stage()", x.stage(), stage);
            Check.due("no goal", x.run(stage), 0);
            Check.due("no goal", x.goal(stage, 0, true), true);
            Check.due("no words", x.run(stage), -1);
            Check.due("room for words", x.use(stage, 0), true);
        }
    }
}
