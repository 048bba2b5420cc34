/** Boundary cases of promise 15: run, with what "Terms" says of stages. */
final class Promise15Run extends Puzzles {
    private static StageRows withGoal(int... goal) {
        StageRows x = neighbourWords();
        stages(x, 1);
        for (int piece : goal) {
            x.goal(0, piece, true);
        }
        return x;
    }

    @Says("as long as its goal is not met")
    static void anEmptyGoalIsMet() {
        StageRows x = withGoal();
        x.use(0, 0);
        x.swap(0, 1);
        Check.due("run", x.run(0), 0);
        Check.due("pieces", pieces(x, 7), "1023456");
    }

    @Says("as long as its goal is not met")
    static void aGoalThatIsMetNeedsNoWords() {
        StageRows x = withGoal(0, 1, 2, 3, 4, 5, 6);
        Check.due("all at home", x.run(0), 0);
        x.goal(0, 5, false);
        x.goal(0, 6, false);
        x.swap(5, 6);
        Check.due("those of the goal at home", x.run(0), 0);
        Check.due("pieces", pieces(x, 7), "0123465");
    }

    @Says("as long as its goal is not met")
    static void oneWordAndNoMoreWhenItIsMet() {
        StageRows x = withGoal(0);
        x.use(0, 0);
        x.use(0, 1);
        x.swap(0, 1);
        x.swap(2, 3);
        Check.due("run", x.run(0), 1);
        Check.due("pieces", pieces(x, 7), "0132456");
    }

    @Says("A stage is done to what is at all places: how many words were done")
    static void theMostWordsThatCanBe() {
        // One word more for each piece, but the last two come home together.
        StageRows x = withGoal(0, 1, 2, 3, 4, 5, 6);
        for (int word = 5; word >= 0; word--) {
            x.use(0, word);
        }
        for (int word = 0; word < 6; word++) {
            x.act(word);
        }
        Check.due("none is at home", pieces(x, 7), "1234560");
        Check.due("run", x.run(0), 6);
        Check.due("did", didAll(x), "5 4 3 2 1 0");
        Check.due("pieces", pieces(x, 7), "0123456");
        Check.due("run again", x.run(0), 0);
    }

    @Says("which are tried in order")
    static void theFirstThatHelpsNotTheOneThatHelpsMost() {
        StageRows x = withGoal(0, 1, 2, 3);
        reads(x, "ac", 6);
        x.use(0, 1);
        x.use(0, 2);
        x.use(0, 6);
        x.use(0, 0);
        x.swap(0, 1);
        x.swap(2, 3);
        Check.due("run", x.run(0), 2);
        Check.due("b no, c yes; then b, c, ac no, a yes", didAll(x), "2 0");
    }

    /** Three places, a turns them all and b exchanges 1 and 2; the goal is 0 and 1. */
    private static StageRows ring() {
        StageRows x = new StageRows(3, 2);
        cycle(x, 0, 0, 1, 2);
        cycle(x, 1, 1, 2);
        reads(x, "a", 0);
        reads(x, "b", 1);
        stages(x, 1);
        x.goal(0, 0, true);
        x.goal(0, 1, true);
        return x;
    }

    @Says("more pieces of the goal are at home than before")
    static void asManyIsNotMore() {
        StageRows x = ring();
        x.use(0, 0);
        // a brings 0 home from place 2, and 1 away.
        x.swap(0, 2);
        Check.due("run", x.run(0), -1);
        Check.due("pieces", pieces(x, 3), "210");
    }

    @Says("more pieces of the goal are at home than before")
    static void asManyIsNotMoreWhicheverPieceGoesAway() {
        for (int piece = 0; piece < 7; piece++) {
            int other = (piece + 1) % 7;
            int third = (piece + 2) % 7;
            StageRows x = new StageRows(7, 1);
            cycle(x, 0, piece, third, other);
            reads(x, "a", 0);
            stages(x, 1);
            x.goal(0, piece, true);
            x.goal(0, other, true);
            x.use(0, 0);
            // a brings the other one home from the third place, and the piece away to there.
            x.swap(other, third);
            Check.due("run with " + piece + " at home", x.run(0), -1);
            Check.due("at home", x.at(piece), piece);
        }
    }

    @Says("more pieces of the goal are at home than before")
    static void fewerIsNotMore() {
        StageRows x = ring();
        x.use(0, 0);
        x.use(0, 1);
        // a brings 0 away and none home, b brings 1 home.
        x.swap(1, 2);
        Check.due("run", x.run(0), 1);
        Check.due("did", x.did(0), 1);
        Check.due("pieces", pieces(x, 3), "012");
    }

    @Says("more pieces of the goal are at home than before")
    static void piecesThatAreNotOfTheGoalDoNotCount() {
        StageRows x = withGoal(0);
        x.use(0, 2);
        x.swap(0, 1);
        x.swap(2, 3);
        Check.due("c brings 2 and 3 home, which is no goal", x.run(0), -1);
        Check.due("pieces", pieces(x, 7), "1032456");
    }

    @Says("-1 when it fails")
    static void aStageWithoutWordsFails() {
        StageRows x = withGoal(0);
        x.swap(0, 1);
        Check.due("run", x.run(0), -1);
        Check.due("pieces", pieces(x, 7), "1023456");
    }

    @Says("-1 when it fails")
    static void aWordWithoutRowsNeverHelps() {
        StageRows x = withGoal(0);
        reads(x, "", 6);
        x.use(0, 6);
        x.swap(0, 1);
        Check.due("run", x.run(0), -1);
        Check.due("did", x.did(0), -1);
    }

    @Says("(those done until then stay done)")
    static void failingBehindTheFirstWord() {
        StageRows x = withGoal(0, 3);
        x.use(0, 0);
        x.swap(0, 1);
        x.swap(3, 4);
        Check.due("run", x.run(0), -1);
        Check.due("pieces", pieces(x, 7), "0124356");
        Check.due("run again", x.run(0), -1);
        Check.due("pieces", pieces(x, 7), "0124356");
    }

    @Says("ArrayIndexOutOfBoundsException: there is no such stage")
    static void noSuchStage() {
        StageRows x = new StageRows(3, 1);
        noneOutside("run", 0, x::run);
        for (int stages = 1; stages <= 8; stages++) {
            x.stage();
            noneOutside("run", stages, x::run);
        }
    }

    @Says("ArrayIndexOutOfBoundsException: there is no such stage")
    static void aRefusedRunChangesNothing() {
        StageRows x = withGoal(0);
        x.use(0, 0);
        x.swap(0, 1);
        noneOutside("run", 1, x::run);
        Check.due("pieces", pieces(x, 7), "1023456");
        Check.due("run", x.run(0), 1);
    }
}
