/** Boundary cases of promise 13: goal. */
final class Promise13Goal extends Puzzles {
    @Says("A piece is of a stage's goal, or not: true")
    static void theFirstAndTheLastPiece() {
        for (int places = 2; places <= 7; places++) {
            StageRows x = new StageRows(places, 1);
            x.stage();
            x.swap(0, places - 1);
            Check.due("an empty goal is met", x.run(0), 0);
            for (int piece = 0; piece < places; piece += places - 1) {
                Check.due("on", x.goal(0, piece, true), true);
                Check.due("not met", x.run(0), -1);
                Check.due("off", x.goal(0, piece, false), true);
                Check.due("met", x.run(0), 0);
            }
        }
    }

    @Says("false when it is so already")
    static void offAtFirst() {
        StageRows x = new StageRows(7, 1);
        stages(x, 8);
        Check.due("the first of all", x.goal(0, 0, false), false);
        Check.due("the last of all", x.goal(7, 6, false), false);
        x.swap(0, 6);
        Check.due("still no goal", x.run(0), 0);
        Check.due("still no goal", x.run(7), 0);
    }

    @Says("false when it is so already")
    static void onTwice() {
        StageRows x = new StageRows(7, 1);
        stages(x, 8);
        x.swap(0, 6);
        Check.due("on", x.goal(7, 6, true), true);
        Check.due("on again", x.goal(7, 6, true), false);
        Check.due("it is of the goal", x.run(7), -1);
        Check.due("off once is enough", x.goal(7, 6, false), true);
        Check.due("it is of no goal", x.run(7), 0);
    }

    @Says("false when it is so already")
    static void offTwice() {
        StageRows x = new StageRows(7, 1);
        stages(x, 1);
        x.goal(0, 3, true);
        Check.due("off", x.goal(0, 3, false), true);
        Check.due("off again", x.goal(0, 3, false), false);
        Check.due("on again", x.goal(0, 3, true), true);
    }

    @Says("false when it is so already")
    static void otherPiecesAndStagesDoNotCount() {
        StageRows x = new StageRows(7, 1);
        stages(x, 8);
        for (int stage = 0; stage < 8; stage++) {
            for (int piece = 0; piece < 7; piece++) {
                Check.due("on", x.goal(stage, piece, true), true);
            }
        }
        for (int stage = 0; stage < 8; stage++) {
            for (int piece = 0; piece < 7; piece++) {
                Check.due("off", x.goal(stage, piece, false), true);
            }
        }
    }

    @Says("ArrayIndexOutOfBoundsException: there is no such stage")
    static void noSuchStage() {
        StageRows x = new StageRows(3, 1);
        noneOutside("goal(n, 0, true)", 0, n -> one(x.goal(n, 0, true)));
        for (int stages = 1; stages <= 8; stages++) {
            x.stage();
            noneOutside("goal(n, 0, true)", stages, n -> one(x.goal(n, 0, true)));
            noneOutside("goal(n, 0, false)", stages, n -> one(x.goal(n, 0, false)));
        }
    }

    @Says("or piece")
    static void noSuchPiece() {
        for (int places = 2; places <= 7; places++) {
            StageRows x = new StageRows(places, 1);
            x.stage();
            noneOutside("goal(0, n, true)", places, n -> one(x.goal(0, n, true)));
            noneOutside("goal(0, n, false)", places, n -> one(x.goal(0, n, false)));
        }
    }

    @Says("ArrayIndexOutOfBoundsException: there is no such stage, or piece")
    static void aRefusedGoalChangesNothing() {
        StageRows x = new StageRows(3, 1);
        stages(x, 2);
        noneOutside("goal(0, n, true)", 3, n -> one(x.goal(0, n, true)));
        noneOutside("goal(n, 0, true)", 2, n -> one(x.goal(n, 0, true)));
        for (int stage = 0; stage < 2; stage++) {
            for (int piece = 0; piece < 3; piece++) {
                Check.due("of no goal", x.goal(stage, piece, false), false);
            }
        }
        Check.due("states(1)", x.states(1), 1);
    }
}
