/** Boundary cases of promise 1: a new object. */
final class Promise01NewObject extends Puzzles {
    private static void hasPlaces(int told, int due) {
        StageRows x = new StageRows(told, 3);
        for (int place = 0; place < due; place++) {
            Check.due("places " + told + ", at(" + place + ")", x.at(place), place);
        }
        noneOutside("places " + told + ", at", due, x::at);
    }

    private static void hasMoves(int told, int due) {
        StageRows x = new StageRows(4, told);
        for (int move = 0; move < due; move++) {
            Check.due("moves " + told + ", order(" + move + ")", x.order(move), 1);
        }
        noneOutside("moves " + told + ", order", due, x::order);
    }

    @Says("places 2 .. 7")
    static void leastMostAndEachNumberOfPlaces() {
        for (int places = 2; places <= 7; places++) {
            hasPlaces(places, places);
        }
    }

    @Says("moves 1 .. 6")
    static void leastMostAndEachNumberOfMoves() {
        for (int moves = 1; moves <= 6; moves++) {
            hasMoves(moves, moves);
        }
    }

    @Says("less counts as the least")
    static void tooFewPlacesAreTwo() {
        for (int places : new int[] {1, 0, -1, -5, LOW}) {
            hasPlaces(places, 2);
        }
    }

    @Says("more as the most")
    static void tooManyPlacesAreSeven() {
        for (int places : new int[] {8, 9, 256 + 3, HIGH}) {
            hasPlaces(places, 7);
        }
    }

    @Says("less counts as the least")
    static void tooFewMovesAreOne() {
        for (int moves : new int[] {0, -1, -3, LOW}) {
            hasMoves(moves, 1);
        }
    }

    @Says("more as the most")
    static void tooManyMovesAreSix() {
        for (int moves : new int[] {7, 8, 256 + 2, HIGH}) {
            hasMoves(moves, 6);
        }
    }

    @Says("(less counts as the least, more as the most)")
    static void oneTooSmallAndTheOtherTooLarge() {
        StageRows x = new StageRows(LOW, HIGH);
        Check.due("the last place", x.at(1), 1);
        Check.noSuch("a place more", () -> x.at(2));
        Check.due("the last move", x.order(5), 1);
        Check.noSuch("a move more", () -> x.order(6));
        StageRows y = new StageRows(HIGH, LOW);
        Check.due("the last place", y.at(6), 6);
        Check.noSuch("a place more", () -> y.at(7));
        Check.due("the last move", y.order(0), 1);
        Check.noSuch("a move more", () -> y.order(1));
    }

    @Says("each leaving all")
    static void eachMoveLeavesAll() {
        StageRows x = new StageRows(7, 6);
        for (int move = 0; move < 6; move++) {
            Check.due("order", x.order(move), 1);
        }
        Check.due("stage()", x.stage(), 0);
        Check.due("no move brings another state about", x.states(0), 1);
        becomes(x, "abcdef", "");
        Check.due("images", images(x, 0, 7), "0123456");
    }

    @Says("No words, no stages")
    static void noWords() {
        StageRows x = new StageRows(4, 2);
        Check.noSuch("length(0)", () -> x.length(0));
        Check.noSuch("row(0, 0)", () -> x.row(0, 0));
        Check.noSuch("image(0, 0)", () -> x.image(0, 0));
        Check.noSuch("act(0)", () -> act(x, 0));
        Check.noSuch("text(0, 0)", () -> x.text(0, 0));
        reads(x, "", 0);
    }

    @Says("No words, no stages")
    static void noStages() {
        StageRows x = new StageRows(4, 2);
        reads(x, "", 0);
        Check.noSuch("goal(0, 0, true)", () -> one(x.goal(0, 0, true)));
        Check.noSuch("use(0, 0)", () -> one(x.use(0, 0)));
        Check.noSuch("run(0)", () -> x.run(0));
        Check.noSuch("states(0)", () -> x.states(0));
        Check.noSuch("fails(0)", () -> x.fails(0));
        Check.due("did(0)", x.did(0), -1);
        Check.due("stage()", x.stage(), 0);
    }

    @Says("No words, no stages")
    static void oneObjectHasNothingOfAnother() {
        StageRows x = neighbourWords();
        stages(x, 8);
        x.act(0);
        x.unit('(');
        StageRows y = new StageRows(7, 6);
        Check.due("order", y.order(0), 1);
        Check.due("pieces", pieces(y, 7), "0123456");
        reads(y, "", 0);
        Check.due("stage()", y.stage(), 0);
    }

    @Says("each piece is at home")
    static void firstAndLastPieceAreAtHome() {
        for (int places = 2; places <= 7; places++) {
            StageRows x = new StageRows(places, 1);
            Check.due("pieces", pieces(x, places), "0123456".substring(0, places));
        }
    }
}
