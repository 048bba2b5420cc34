/** Boundary cases of promise 18: fails. */
final class Promise18Fails extends Puzzles {
    /** Three places; a exchanges 0 and 1, b exchanges 1 and 2; all six states can come. */
    private static StageRows three() {
        StageRows x = new StageRows(3, 2);
        cycle(x, 0, 0, 1);
        cycle(x, 1, 1, 2);
        return x;
    }

    @Says("In how many of these the stage fails")
    static void anEmptyGoalFailsInNone() {
        StageRows x = neighbours();
        stages(x, 8);
        for (int stage = 0; stage < 8; stage++) {
            Check.due("fails", x.fails(stage), 0);
        }
    }

    @Says("In how many of these the stage fails")
    static void withoutWordsInAllInWhichTheGoalIsNotMet() {
        StageRows x = neighbours();
        stages(x, 2);
        for (int piece = 0; piece < 7; piece++) {
            x.goal(0, piece, true);
        }
        Check.due("all but the one at home", x.fails(0), 5039);
        for (int piece = 1; piece < 7; piece++) {
            x.goal(0, piece, false);
        }
        Check.due("all in which 0 is not at home", x.fails(0), 4320);
        x.goal(1, 1, true);
        Check.due("of those with 0 at home", x.fails(1), 600);
    }

    @Says("In how many of these the stage fails")
    static void noneWhenOnlyTheStateAtHomeCanCome() {
        StageRows x = new StageRows(7, 6);
        stages(x, 2);
        x.goal(0, 0, true);
        x.goal(1, 1, true);
        x.swap(0, 1);
        Check.due("fails(0)", x.fails(0), 0);
        Check.due("fails(1)", x.fails(1), 0);
        Check.due("now it would fail", x.run(0), -1);
    }

    @Says("In how many of these the stage fails")
    static void wordByWordUntilItFailsInNone() {
        StageRows x = three();
        reads(x, "a", 0);
        reads(x, "aba", 1);
        stages(x, 1);
        x.goal(0, 0, true);
        Check.due("without words", x.fails(0), 4);
        x.use(0, 0);
        Check.due("from place 1", x.fails(0), 2);
        x.use(0, 1);
        Check.due("from place 2", x.fails(0), 0);
    }

    @Says("In how many of these the stage fails")
    static void failingBehindTheFirstWordIsFailing() {
        StageRows x = three();
        reads(x, "a", 0);
        stages(x, 1);
        x.goal(0, 0, true);
        x.goal(0, 2, true);
        x.use(0, 0);
        // With 2, 0, 1 at the places a brings 0 home, and then no word helps.
        Check.due("fails", x.fails(0), 4);
    }

    @Says("In how many of these the stage fails")
    static void noneWhenAnyTwoPlacesHaveAWord() {
        // Whatever is not at home can be brought home by exchanging it with what is there.
        StageRows x = new StageRows(4, 3);
        for (int move = 0; move < 3; move++) {
            cycle(x, move, move, move + 1);
        }
        String[] twos = {"a", "b", "c", "aba", "bcb", "abcba"};
        stages(x, 1);
        for (int piece = 0; piece < 4; piece++) {
            x.goal(0, piece, true);
        }
        for (int word = 0; word < 6; word++) {
            reads(x, twos[word], word);
            x.use(0, word);
        }
        Check.due("fails", x.fails(0), 0);
        Check.due("states", x.states(0), 24);
    }

    @Says("or some goal of a stage before it is not met behind it")
    static void aGoalBeforeThatIsLost() {
        StageRows x = three();
        reads(x, "ba", 0);
        reads(x, "b", 1);
        stages(x, 2);
        x.goal(0, 0, true);
        x.goal(1, 2, true);
        x.use(1, 0);
        // 0, 2, 1: ba brings 2 home, and 0 away.
        Check.due("states", x.states(1), 2);
        Check.due("fails", x.fails(1), 1);
        x.use(1, 1);
        Check.due("ba is still the first", x.fails(1), 1);
        x.goal(0, 0, false);
        Check.due("nothing to be lost", x.states(1), 6);
        StageRows y = three();
        reads(y, "b", 0);
        stages(y, 2);
        y.goal(0, 0, true);
        y.goal(1, 2, true);
        y.use(1, 0);
        Check.due("b alone brings 2 home and leaves 0", y.fails(1), 0);
    }

    @Says("or some goal of a stage before it is not met behind it")
    static void aGoalBeforeThatIsLostAndFoundAgain() {
        // a, b and c exchange 0 and 1, 2 and 3, 1 and 2.
        StageRows x = new StageRows(4, 3);
        cycle(x, 0, 0, 1);
        cycle(x, 1, 2, 3);
        cycle(x, 2, 1, 2);
        reads(x, "ab", 0);
        reads(x, "b", 1);
        stages(x, 2);
        x.goal(0, 3, true);
        x.goal(1, 0, true);
        x.goal(1, 1, true);
        x.goal(1, 2, true);
        x.use(1, 0);
        Check.due("1, 0, 2, 3 is left with 3 at place 2", x.fails(1), 5);
        x.use(1, 1);
        // ab brings 0 and 1 home and 2 and 3 away, b brings these two back.
        Check.due("1, 0, 2, 3 ends well", x.fails(1), 4);
    }

    @Says("or some goal of a stage before it is not met behind it")
    static void theGoalOfEachStageBeforeCounts() {
        for (int before = 0; before < 7; before++) {
            StageRows x = three();
            reads(x, "ba", 0);
            stages(x, 8);
            x.goal(before, 0, true);
            x.goal(7, 2, true);
            x.use(7, 0);
            Check.due("goal of stage " + before, x.fails(7), 1);
        }
    }

    @Says("or some goal of a stage before it is not met behind it")
    static void goalsOfLaterStagesDoNotCount() {
        StageRows x = three();
        reads(x, "a", 0);
        reads(x, "aba", 1);
        stages(x, 2);
        x.goal(0, 0, true);
        x.goal(1, 1, true);
        x.goal(1, 2, true);
        x.use(0, 0);
        x.use(0, 1);
        Check.due("fails(0)", x.fails(0), 0);
    }

    @Says("In how many of these the stage fails")
    static void nothingIsDone() {
        StageRows x = three();
        reads(x, "a", 0);
        stages(x, 1);
        x.goal(0, 0, true);
        x.use(0, 0);
        x.swap(0, 1);
        Check.due("fails", x.fails(0), 2);
        Check.due("pieces", pieces(x, 3), "102");
        Check.due("did", x.did(0), -1);
        Check.due("run", x.run(0), 1);
    }

    @Says("ArrayIndexOutOfBoundsException: there is no such stage")
    static void noSuchStage() {
        StageRows x = new StageRows(3, 1);
        noneOutside("fails", 0, x::fails);
        for (int stages = 1; stages <= 8; stages++) {
            x.stage();
            noneOutside("fails", stages, x::fails);
        }
        x.exchange(0, 0, 1);
        noneOutside("fails", 0, x::fails);
    }
}
