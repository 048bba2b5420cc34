/** Boundary cases of promise 11: at. */
final class Promise11At extends Puzzles {
    @Says("The piece at a place")
    static void theFirstAndTheLastPlace() {
        for (int places = 2; places <= 7; places++) {
            StageRows x = new StageRows(places, 1);
            Check.due("at(0)", x.at(0), 0);
            Check.due("at the last", x.at(places - 1), places - 1);
        }
    }

    @Says("The piece at a place")
    static void notThePlaceOfAPiece() {
        StageRows x = new StageRows(3, 1);
        x.exchange(0, 0, 1);
        x.exchange(0, 1, 2);
        reads(x, "a", 0);
        x.act(0);
        Check.due("pieces", pieces(x, 3), "201");
    }

    @Says("ArrayIndexOutOfBoundsException: there is no such place")
    static void noSuchPlace() {
        for (int places = 2; places <= 7; places++) {
            StageRows x = new StageRows(places, 1);
            noneOutside("at(n)", places, x::at);
        }
    }
}
