/** Boundary cases of promise 9: act. */
final class Promise09Act extends Puzzles {
    @Says("A word is done to what is at all places")
    static void aWordWithoutRowsLeavesAll() {
        StageRows x = twoThrees();
        reads(x, "", 0);
        x.swap(0, 4);
        x.act(0);
        Check.due("pieces", pieces(x, 5), "41230");
    }

    @Says("A word is done to what is at all places")
    static void fromTheFirstToTheLastPlace() {
        for (int places = 2; places <= 7; places++) {
            StageRows x = new StageRows(places, 1);
            x.exchange(0, 0, places - 1);
            reads(x, "a", 0);
            x.act(0);
            Check.due("at(0)", x.at(0), places - 1);
            Check.due("at the last", x.at(places - 1), 0);
        }
    }

    @Says("A word is done to what is at all places")
    static void whatIsAtAPlaceComesToItsImage() {
        StageRows x = twoThrees();
        reads(x, "ab", 0);
        x.act(0);
        Check.due("once", pieces(x, 5), "20413");
        x.act(0);
        Check.due("twice", pieces(x, 5), "42301");
    }

    @Says("A word is done to what is at all places")
    static void asOftenAsTheOrderAllIsBack() {
        StageRows x = twelves();
        reads(x, "a", 0);
        for (int time = 1; time < 12; time++) {
            x.act(0);
            Check.due("all at home", pieces(x, 7).equals("0123456"), false);
        }
        x.act(0);
        Check.due("pieces", pieces(x, 7), "0123456");
    }

    @Says("ArrayIndexOutOfBoundsException: there is no such word")
    static void noSuchWord() {
        StageRows x = neighbours();
        noneOutside("act(n)", 0, n -> act(x, n));
        reads(x, "a", 0);
        noneOutside("act(n)", 1, n -> act(x, n));
        fillWords(x, 1, "a");
        noneOutside("act(n)", 30, n -> act(x, n));
        Check.due("pieces", pieces(x, 7), "0123456");
    }

    @Says("ArrayIndexOutOfBoundsException: there is no such word")
    static void aRefusedActChangesNothing() {
        StageRows x = neighbours();
        reads(x, "ab", 0);
        x.act(0);
        Check.noSuch("act(1)", () -> act(x, 1));
        Check.noSuch("act(-1)", () -> act(x, -1));
        Check.due("pieces", pieces(x, 7), "1203456");
    }

    @Says("ArrayIndexOutOfBoundsException: there is no such word")
    static void afterAnExchange() {
        StageRows x = neighbourWords();
        x.act(0);
        x.exchange(0, 0, 2);
        Check.noSuch("act(0)", () -> act(x, 0));
        Check.due("pieces", pieces(x, 7), "1023456");
    }
}
