/** Boundary cases of promise 14: use. */
final class Promise14Use extends Puzzles {
    /** A stage with the goal 0 and a number of words that do not help; piece 0 is at place 1. */
    private static StageRows withIdleWords(int count) {
        StageRows x = neighbourWords();
        stages(x, 2);
        x.goal(0, 0, true);
        for (int i = 0; i < count; i++) {
            Check.due("use " + i, x.use(0, 5), true);
        }
        x.swap(0, 1);
        return x;
    }

    @Says("A word comes behind those of a stage: true")
    static void theTwelfthComes() {
        StageRows x = withIdleWords(11);
        Check.due("eleven that do not help", x.run(0), -1);
        Check.due("the twelfth", x.use(0, 0), true);
        Check.due("it is tried", x.run(0), 1);
        Check.due("it is done", x.did(0), 0);
    }

    @Says("false when it has 12")
    static void theThirteenthIsRefused() {
        StageRows x = withIdleWords(12);
        for (int i = 0; i < 3; i++) {
            Check.due("the thirteenth", x.use(0, 0), false);
        }
        Check.due("it is not tried", x.run(0), -1);
        Check.due("pieces", pieces(x, 7), "1023456");
    }

    @Says("false when it has 12")
    static void theThirteenthIsNotTheNextStagesFirst() {
        StageRows x = withIdleWords(12);
        Check.due("the thirteenth", x.use(0, 0), false);
        x.goal(1, 0, true);
        Check.due("the next stage has no words", x.run(1), -1);
    }

    @Says("false when it has 12")
    static void eachStageHasTwelveOfItsOwn() {
        StageRows x = neighbourWords();
        stages(x, 8);
        for (int stage = 0; stage < 8; stage++) {
            for (int i = 0; i < 12; i++) {
                Check.due("use", x.use(stage, i % 6), true);
            }
        }
        for (int stage = 0; stage < 8; stage++) {
            Check.due("one more", x.use(stage, 0), false);
        }
    }

    @Says("A word comes behind those of a stage: true")
    static void theSameWordTwiceCountsTwice() {
        StageRows x = neighbourWords();
        stages(x, 1);
        for (int i = 0; i < 12; i++) {
            Check.due("use", x.use(0, 3), true);
        }
        Check.due("one more", x.use(0, 3), false);
    }

    @Says("A word comes behind those of a stage: true")
    static void theFirstAndTheLastWordOfThirty() {
        StageRows x = neighbours();
        reads(x, "b", 0);
        for (int word = 1; word < 29; word++) {
            reads(x, "", word);
        }
        reads(x, "a", 29);
        stages(x, 1);
        Check.due("the first", x.use(0, 0), true);
        Check.due("the last", x.use(0, 29), true);
        x.goal(0, 0, true);
        x.swap(0, 1);
        Check.due("run", x.run(0), 1);
        Check.due("did", x.did(0), 29);
    }

    @Says("ArrayIndexOutOfBoundsException: there is no such stage")
    static void noSuchStage() {
        StageRows x = neighbourWords();
        noneOutside("use(n, 0)", 0, n -> one(x.use(n, 0)));
        for (int stages = 1; stages <= 8; stages++) {
            x.stage();
            noneOutside("use(n, 0)", stages, n -> one(x.use(n, 0)));
        }
    }

    @Says("or word")
    static void noSuchWord() {
        StageRows x = neighbours();
        stages(x, 2);
        noneOutside("use(0, n)", 0, n -> one(x.use(0, n)));
        reads(x, "a", 0);
        noneOutside("use(1, n)", 1, n -> one(x.use(1, n)));
        fillWords(x, 1, "a");
        noneOutside("use(1, n)", 30, n -> one(x.use(1, n)));
    }

    @Says("or word")
    static void noSuchWordForAStageThatHas12() {
        StageRows x = withIdleWords(12);
        noneOutside("use(0, n)", 6, n -> one(x.use(0, n)));
    }

    @Says("ArrayIndexOutOfBoundsException: there is no such stage, or word")
    static void aRefusedUseChangesNothing() {
        StageRows x = withIdleWords(11);
        noneOutside("use(0, n)", 6, n -> one(x.use(0, n)));
        noneOutside("use(n, 0)", 2, n -> one(x.use(n, 0)));
        Check.due("no word came", x.run(0), -1);
        Check.due("there is room for one", x.use(0, 0), true);
        Check.due("and for no more", x.use(0, 0), false);
    }
}
