/** Boundary cases of promise 2: exchange. */
final class Promise02Exchange extends Puzzles {
    /** Two words, two stages and pieces that are not at home; a run has been. */
    private static StageRows inUse() {
        StageRows x = twoThrees();
        reads(x, "a", 0);
        reads(x, "ab", 1);
        stages(x, 2);
        x.goal(0, 0, true);
        x.use(0, 0);
        x.goal(1, 3, true);
        x.swap(0, 2);
        Check.due("run", x.run(0), 1);
        return x;
    }

    private static void isAsInUse(String when, StageRows x) {
        Check.due(when + ", order(0)", x.order(0), 3);
        Check.due(when + ", order(1)", x.order(1), 3);
        Check.due(when + ", word 0", plain(x, 0), "a");
        Check.due(when + ", word 1", plain(x, 1), "ab");
        Check.due(when + ", images of a", images(x, 0, 5), "12034");
        Check.due(when + ", images of ab", images(x, 1, 5), "13042");
        Check.noSuch(when + ", no word 2", () -> x.length(2));
        Check.due(when + ", goal of 0", x.goal(0, 0, true), false);
        Check.due(when + ", goal of 1", x.goal(1, 3, true), false);
        Check.due(when + ", states(1)", x.states(1), 12);
        Check.due(when + ", fails(0)", x.fails(0), 36);
        Check.due(when + ", pieces", pieces(x, 5), "02134");
        Check.due(when + ", did", didAll(x), "0");
    }

    @Says("In a move the goals of two places are exchanged: true")
    static void firstAndLastPlaceOfTheLastMove() {
        for (int places = 2; places <= 7; places++) {
            int last = places - 1;
            StageRows x = new StageRows(places, 6);
            Check.due("exchange", x.exchange(5, 0, last), true);
            Check.due("order(5)", x.order(5), 2);
            Check.due("order(4)", x.order(4), 1);
            reads(x, "f", 0);
            Check.due("image of 0", x.image(0, 0), last);
            Check.due("image of the last", x.image(0, last), 0);
        }
    }

    @Says("In a move the goals of two places are exchanged: true")
    static void theSameTwiceIsAsBefore() {
        StageRows x = new StageRows(2, 1);
        Check.due("exchange(0, 0, 1)", x.exchange(0, 0, 1), true);
        Check.due("order", x.order(0), 2);
        Check.due("exchange(0, 1, 0)", x.exchange(0, 1, 0), true);
        Check.due("order", x.order(0), 1);
    }

    @Says("In a move the goals of two places are exchanged: true")
    static void theGoalsNotThePlacesThatLeadThere() {
        StageRows x = new StageRows(3, 1);
        x.exchange(0, 0, 1);
        x.exchange(0, 0, 2);
        reads(x, "a", 0);
        Check.due("images", images(x, 0, 3), "201");
    }

    @Says("false when they are one")
    static void onePlaceIsFalseForEachMoveAndPlace() {
        StageRows x = new StageRows(7, 6);
        for (int move = 0; move < 6; move++) {
            for (int place = 0; place < 7; place++) {
                Check.due("exchange", x.exchange(move, place, place), false);
            }
            Check.due("order", x.order(move), 1);
        }
    }

    @Says("false when they are one")
    static void onePlaceChangesNothing() {
        StageRows x = inUse();
        Check.due("exchange", x.exchange(0, 0, 0), false);
        Check.due("exchange", x.exchange(1, 4, 4), false);
        isAsInUse("behind false", x);
    }

    @Says("All words and stages are gone then")
    static void wordsAreGone() {
        StageRows x = inUse();
        Check.due("exchange", x.exchange(0, 3, 4), true);
        Check.noSuch("length(0)", () -> x.length(0));
        Check.noSuch("row(0, 0)", () -> x.row(0, 0));
        Check.noSuch("image(0, 0)", () -> x.image(0, 0));
        Check.noSuch("act(0)", () -> act(x, 0));
        Check.noSuch("text(0, 0)", () -> x.text(0, 0));
        Check.noSuch("length(1)", () -> x.length(1));
        reads(x, "b", 0);
        Check.due("the new word", plain(x, 0), "b");
        Check.noSuch("no old word behind it", () -> x.length(1));
    }

    @Says("All words and stages are gone then")
    static void stagesAreGone() {
        StageRows x = inUse();
        Check.due("exchange", x.exchange(0, 3, 4), true);
        reads(x, "a", 0);
        Check.noSuch("goal(0, ..)", () -> one(x.goal(0, 0, true)));
        Check.noSuch("use(0, 0)", () -> one(x.use(0, 0)));
        Check.noSuch("run(0)", () -> x.run(0));
        Check.noSuch("states(0)", () -> x.states(0));
        Check.noSuch("fails(0)", () -> x.fails(0));
        Check.noSuch("run(1)", () -> x.run(1));
        Check.due("stage()", x.stage(), 0);
        Check.noSuch("no old stage behind it", () -> x.run(1));
        Check.due("the new one has no goal", x.goal(0, 0, false), false);
        Check.due("no goal, no failing", x.fails(0), 0);
    }

    @Says("All words and stages are gone then")
    static void whenFullThereIsRoomForAllAgain() {
        StageRows x = new StageRows(3, 1);
        x.exchange(0, 0, 1);
        fillWords(x, 0, "a");
        reads(x, "a", -200);
        stages(x, 8);
        Check.due("stage() with 8", x.stage(), -1);
        Check.due("exchange", x.exchange(0, 1, 2), true);
        fillWords(x, 0, "a");
        reads(x, "a", -200);
        stages(x, 8);
        Check.due("stage() with 8", x.stage(), -1);
    }

    @Says("All words and stages are gone then")
    static void wordsOfTheOtherMovesTooAndWhenThereAreNone() {
        StageRows x = new StageRows(3, 2);
        Check.due("without words", x.exchange(0, 0, 1), true);
        reads(x, "a", 0);
        Check.due("another move", x.exchange(1, 0, 1), true);
        Check.noSuch("word a", () -> x.length(0));
    }

    @Says("All words and stages are gone then")
    static void whatIsNoWordAndNoStageStays() {
        StageRows x = inUse();
        x.unit('a');
        Check.due("exchange", x.exchange(1, 0, 1), true);
        Check.due("pieces", pieces(x, 5), "02134");
        Check.due("order(0)", x.order(0), 3);
        reads(x, "b", 0);
        Check.due("the text stays", plain(x, 0), "ab");
    }

    @Says("All words and stages are gone then")
    static void statesAreThoseOfTheNewMoves() {
        StageRows x = new StageRows(3, 1);
        x.stage();
        Check.due("all left", x.states(0), 1);
        x.exchange(0, 0, 1);
        x.stage();
        Check.due("two exchanged", x.states(0), 2);
        x.exchange(0, 1, 2);
        x.stage();
        Check.due("three turned", x.states(0), 3);
        x.exchange(0, 1, 2);
        x.stage();
        Check.due("two exchanged again", x.states(0), 2);
    }

    @Says("ArrayIndexOutOfBoundsException: there is no such move")
    static void noSuchMove() {
        for (int moves = 1; moves <= 6; moves++) {
            StageRows x = new StageRows(3, moves);
            noneOutside("exchange(n, 0, 1)", moves, n -> one(x.exchange(n, 0, 1)));
            noneOutside("exchange(n, 1, 1)", moves, n -> one(x.exchange(n, 1, 1)));
        }
    }

    @Says("or place")
    static void noSuchPlace() {
        for (int places = 2; places <= 7; places++) {
            StageRows x = new StageRows(places, 1);
            noneOutside("exchange(0, n, 0)", places, n -> one(x.exchange(0, n, 0)));
            noneOutside("exchange(0, 0, n)", places, n -> one(x.exchange(0, 0, n)));
            noneOutside("exchange(0, n, n)", places, n -> one(x.exchange(0, n, n)));
        }
    }

    @Says("ArrayIndexOutOfBoundsException: there is no such move, or place")
    static void aRefusedExchangeChangesNothing() {
        StageRows x = inUse();
        Check.noSuch("exchange(2, 0, 1)", () -> one(x.exchange(2, 0, 1)));
        Check.noSuch("exchange(-1, 0, 1)", () -> one(x.exchange(-1, 0, 1)));
        Check.noSuch("exchange(0, 0, 5)", () -> one(x.exchange(0, 0, 5)));
        Check.noSuch("exchange(0, -1, 1)", () -> one(x.exchange(0, -1, 1)));
        isAsInUse("behind refused ones", x);
    }
}
