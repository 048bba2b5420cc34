/** Boundary cases of promise 17: states. */
final class Promise17States extends Puzzles {
    @Says("How many states there are that words of single moves bring about")
    static void onlyOneWhenNoMoveDoesAnything() {
        for (int places = 2; places <= 7; places++) {
            StageRows x = new StageRows(places, 6);
            x.stage();
            Check.due("states", x.states(0), 1);
        }
    }

    @Says("How many states there are that words of single moves bring about")
    static void allThatThereAreOfEachNumberOfPlaces() {
        int all = 1;
        for (int places = 2; places <= 7; places++) {
            all *= places;
            StageRows x = new StageRows(places, 6);
            for (int move = 0; move < places - 1; move++) {
                cycle(x, move, move, move + 1);
            }
            x.stage();
            Check.due("states of " + places, x.states(0), all);
        }
    }

    @Says("How many states there are that words of single moves bring about")
    static void allByTheLastMoveToo() {
        StageRows x = new StageRows(7, 6);
        cycle(x, 4, 0, 1, 2, 3, 4, 5, 6);
        x.stage();
        Check.due("a ring", x.states(0), 7);
        cycle(x, 5, 0, 1);
        x.stage();
        Check.due("a ring and two of it", x.states(0), 5040);
    }

    @Says("How many states there are that words of single moves bring about")
    static void asManyAsTheOrderOfOneMove() {
        StageRows x = twelves();
        x.stage();
        Check.due("states", x.states(0), 12);
    }

    @Says("How many states there are that words of single moves bring about")
    static void statesFarFromHomeAreFoundToo() {
        // Two moves of order 2 on seven places in a row: at most seven rows away, and not all.
        StageRows x = new StageRows(7, 2);
        cycle(x, 0, 0, 1);
        cycle(x, 0, 2, 3);
        cycle(x, 0, 4, 5);
        cycle(x, 1, 1, 2);
        cycle(x, 1, 3, 4);
        cycle(x, 1, 5, 6);
        x.stage();
        Check.due("states", x.states(0), 14);
    }

    @Says("from that in which all are at home")
    static void whereThePiecesAreDoesNotMatter() {
        StageRows x = twoThrees();
        stages(x, 2);
        x.goal(0, 0, true);
        x.swap(0, 1);
        Check.due("an odd state now", x.states(0), 60);
        Check.due("0 is not at home now", x.states(1), 12);
        Check.due("pieces", pieces(x, 5), "10234");
    }

    @Says("with the goals of all stages before a stage met")
    static void theFirstStageHasNoneBefore() {
        StageRows x = twoThrees();
        stages(x, 2);
        for (int piece = 0; piece < 5; piece++) {
            x.goal(0, piece, true);
            x.goal(1, piece, true);
        }
        Check.due("states(0)", x.states(0), 60);
        Check.due("states(1)", x.states(1), 1);
    }

    @Says("with the goals of all stages before a stage met")
    static void itsOwnGoalAndLaterOnesDoNotCount() {
        StageRows x = twoThrees();
        stages(x, 3);
        x.goal(1, 0, true);
        x.goal(2, 1, true);
        Check.due("states(0)", x.states(0), 60);
        Check.due("states(1)", x.states(1), 60);
        Check.due("states(2)", x.states(2), 12);
    }

    @Says("with the goals of all stages before a stage met")
    static void allStagesBeforeTheEighth() {
        StageRows x = neighbours();
        stages(x, 8);
        int[] due = {5040, 720, 120, 24, 6, 2, 1, 1};
        for (int stage = 0; stage < 7; stage++) {
            x.goal(stage, 6 - stage, true);
        }
        for (int stage = 0; stage < 8; stage++) {
            Check.due("states(" + stage + ")", x.states(stage), due[stage]);
        }
    }

    @Says("with the goals of all stages before a stage met")
    static void aGoalOfTwoStagesCountsOnceAndOneTakenBackNotAtAll() {
        StageRows x = neighbours();
        stages(x, 3);
        x.goal(0, 0, true);
        x.goal(1, 0, true);
        Check.due("the same goal twice", x.states(2), 720);
        x.goal(0, 0, false);
        Check.due("taken back in one", x.states(2), 720);
        x.goal(1, 0, false);
        Check.due("taken back in both", x.states(2), 5040);
    }

    @Says("with the goals of all stages before a stage met")
    static void stagesWithoutGoalBefore() {
        StageRows x = neighbours();
        stages(x, 8);
        Check.due("states(7)", x.states(7), 5040);
    }

    @Says("ArrayIndexOutOfBoundsException: there is no such stage")
    static void noSuchStage() {
        StageRows x = new StageRows(3, 1);
        noneOutside("states", 0, x::states);
        for (int stages = 1; stages <= 8; stages++) {
            x.stage();
            noneOutside("states", stages, x::states);
        }
        x.exchange(0, 0, 1);
        noneOutside("states", 0, x::states);
    }
}
