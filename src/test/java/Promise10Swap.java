/** Boundary cases of promise 10: swap. */
final class Promise10Swap extends Puzzles {
    @Says("The pieces at two places are exchanged: true")
    static void theFirstAndTheLastPlace() {
        for (int places = 2; places <= 7; places++) {
            int last = places - 1;
            StageRows x = new StageRows(places, 1);
            Check.due("swap", x.swap(0, last), true);
            Check.due("at(0)", x.at(0), last);
            Check.due("at the last", x.at(last), 0);
            Check.due("swap back", x.swap(last, 0), true);
            Check.due("pieces", pieces(x, places), "0123456".substring(0, places));
        }
    }

    @Says("The pieces at two places are exchanged: true")
    static void placesAreToldNotPieces() {
        StageRows x = new StageRows(4, 1);
        x.swap(0, 3);
        Check.due("swap", x.swap(3, 1), true);
        Check.due("pieces", pieces(x, 4), "3021");
    }

    @Says("The pieces at two places are exchanged: true")
    static void movesWordsAndStagesStay() {
        StageRows x = twoThrees();
        reads(x, "ab", 0);
        stages(x, 1);
        x.goal(0, 0, true);
        x.swap(0, 1);
        Check.due("order", x.order(0), 3);
        Check.due("images", images(x, 0, 5), "13042");
        Check.due("goal", x.goal(0, 0, true), false);
        Check.due("states", x.states(0), 60);
    }

    @Says("false when they are one")
    static void onePlaceIsFalseAndChangesNothing() {
        StageRows x = new StageRows(7, 1);
        x.swap(0, 6);
        for (int place = 0; place < 7; place++) {
            Check.due("swap", x.swap(place, place), false);
        }
        Check.due("pieces", pieces(x, 7), "6123450");
    }

    @Says("ArrayIndexOutOfBoundsException: there is no such place")
    static void noSuchPlace() {
        for (int places = 2; places <= 7; places++) {
            StageRows x = new StageRows(places, 1);
            noneOutside("swap(n, 0)", places, n -> one(x.swap(n, 0)));
            noneOutside("swap(0, n)", places, n -> one(x.swap(0, n)));
            noneOutside("swap(n, n)", places, n -> one(x.swap(n, n)));
        }
    }

    @Says("ArrayIndexOutOfBoundsException: there is no such place")
    static void aRefusedSwapChangesNothing() {
        StageRows x = new StageRows(5, 1);
        x.swap(1, 2);
        Check.noSuch("swap(0, 5)", () -> one(x.swap(0, 5)));
        Check.noSuch("swap(-1, 0)", () -> one(x.swap(-1, 0)));
        Check.due("pieces", pieces(x, 5), "02134");
    }
}
