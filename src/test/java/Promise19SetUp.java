/** Boundary cases of promise 19: setUp. */
final class Promise19SetUp extends Puzzles {
    private static final int HERE = 0_210;

    /** Pieces or places that are wrong are -2, and there is no word then. */
    private static void wrongTriple(StageRows x, int right, int... wrong) {
        for (int triple : wrong) {
            Check.due("setUp(" + triple + ", ..)", x.setUp(triple, right, 9), -2);
            Check.due("setUp(.., " + triple + ")", x.setUp(right, triple, 9), -2);
            Check.due("setUp(" + triple + ", the same)", x.setUp(triple, triple, 9), -2);
        }
        Check.noSuch("no word", () -> x.length(0));
    }

    private static void finds(StageRows x, int pieces, int places, int deep, String due) {
        int word = x.setUp(pieces, places, deep);
        Check.due("a word is found", word >= 0, true);
        if (word >= 0) {
            Check.due("setUp to " + Integer.toOctalString(places), plain(x, word), due);
        }
    }

    // At most deep.

    @Says("at most deep (0 .. 9)")
    static void deep0FindsWhatIsThereAlready() {
        StageRows x = neighbours();
        Check.due("setUp", x.setUp(HERE, HERE, 0), 0);
        Check.due("length", x.length(0), 0);
        Check.due("one row is too much", x.setUp(HERE, 0_201, 0), -1);
    }

    @Says("at most deep (0 .. 9)")
    static void deep9FindsNineRowsDeep8DoesNot() {
        StageRows x = neighbours();
        Check.due("deep 8", x.setUp(HERE, 0_543, 8), -1);
        Check.due("deep 9", x.setUp(HERE, 0_543, 9), 0);
        Check.due("length", x.length(0), 9);
        Check.due("images", images(x, 0, 3), "345");
    }

    @Says("at most deep (0 .. 9)")
    static void tenRowsAreNeverFound() {
        StageRows x = neighbours();
        Check.due("deep 9", x.setUp(HERE, 0_643, 9), -1);
    }

    @Says("at most deep (0 .. 9)")
    static void eachDepthFindsAsManyRowsAndOneLessDoesNot() {
        int[] goals = {HERE, 0_310, 0_410, 0_510, 0_610, 0_620, 0_630, 0_640, 0_650, 0_651};
        for (int rows = 0; rows <= 9; rows++) {
            StageRows x = neighbours();
            Check.due("one less", x.setUp(HERE, goals[rows], rows - 1), rows == 0 ? -2 : -1);
            Check.due("just as many", x.setUp(HERE, goals[rows], rows), 0);
            Check.due("length", x.length(0), rows);
            Check.due("more than it needs", x.setUp(HERE, goals[rows], 9), 1);
            Check.due("is no longer", x.length(1), rows);
        }
    }

    @Says("-2 when deep is not so")
    static void lessThan0() {
        StageRows x = neighbours();
        for (int deep : new int[] {-1, -2, -9, -256, LOW}) {
            Check.due("deep " + deep, x.setUp(HERE, HERE, deep), -2);
        }
        Check.noSuch("no word", () -> x.length(0));
    }

    @Says("-2 when deep is not so")
    static void moreThan9() {
        StageRows x = neighbours();
        for (int deep : new int[] {10, 11, 256, 265, HIGH}) {
            Check.due("deep " + deep, x.setUp(HERE, HERE, deep), -2);
        }
        Check.noSuch("no word", () -> x.length(0));
    }

    // Pieces and places.

    @Says("a digit is no place")
    static void oneMoreThanTheLastPlace() {
        for (int places = 3; places <= 7; places++) {
            wrongTriple(new StageRows(places, 1), HERE, 0_010 + 64 * places, 0_200 + 8 * places, 0_210 + places);
            wrongTriple(new StageRows(places, 1), HERE, 0_710, 0_270, 0_217);
        }
    }

    @Says("a digit is no place")
    static void theLastPlaceIsRight() {
        for (int places = 3; places <= 7; places++) {
            int last = places - 1;
            int[] triples = {0_100 + last, 0_100 + 8 * last, 0_010 + 64 * last};
            StageRows x = new StageRows(places, 1);
            for (int i = 0; i < 3; i++) {
                Check.due("setUp " + triples[i], x.setUp(triples[i], triples[i], 0), i);
            }
        }
    }

    @Says("a digit is no place")
    static void twoPlacesAreTooFew() {
        StageRows x = new StageRows(2, 1);
        for (int triple = 0; triple < 512; triple += 7) {
            Check.due("setUp " + triple, x.setUp(triple, triple, 0), -2);
        }
    }

    @Says("two are alike")
    static void eachTwoOfThree() {
        wrongTriple(neighbours(), HERE, 0, 0_011, 0_101, 0_110, 0_100, 0_010, 0_001, 0_666, 0_665, 0_656, 0_566);
    }

    @Says("or something stands above three digits")
    static void aFourthDigit() {
        wrongTriple(neighbours(), HERE, 01_210, 02_210, 07_210, 010_210, 01000, 512 * 256 + HERE, 1 << 30 | HERE, HIGH);
    }

    @Says("(or it is below 0)")
    static void below0() {
        wrongTriple(neighbours(), HERE, -1, -HERE, HERE - 512, LOW, LOW | HERE);
    }

    @Says("Pieces and places are told by three digits in base 8, the first one's lowest")
    static void thePieceOfADigitComesToThePlaceOfThatDigit() {
        StageRows x = new StageRows(7, 1);
        cycle(x, 0, 0, 1, 2, 3, 4, 5, 6);
        Check.due("setUp", x.setUp(0_630, 0_063, 1), -1);
        finds(x, 0_630, 0_041, 1, "a");
        finds(x, 0_036, 0_140, 1, "a");
        finds(x, 0_210, 0_654, 1, "a4");
    }

    @Says("that brings three pieces from where they are now to three places")
    static void whereThePiecesAreNow() {
        StageRows x = new StageRows(7, 1);
        cycle(x, 0, 0, 1, 2, 3, 4, 5, 6);
        reads(x, "a", 0);
        x.act(0);
        finds(x, HERE, 0_321, 0, "");
        finds(x, HERE, 0_432, 1, "a");
        finds(x, HERE, HERE, 1, "a6");
        x.swap(0, 1);
        finds(x, 0_160, HERE, 0, "");
    }

    @Says("It becomes a word: its number (nothing is done yet)")
    static void nothingIsDoneYet() {
        StageRows x = neighbours();
        reads(x, "a", 0);
        Check.due("setUp", x.setUp(HERE, 0_321, 9), 1);
        Check.due("pieces", pieces(x, 7), "0123456");
        x.act(1);
        Check.due("at(1)", x.at(1), 0);
        Check.due("at(2)", x.at(2), 1);
        Check.due("at(3)", x.at(3), 2);
        reads(x, "a", 2);
    }

    @Says("It becomes a word: its number (nothing is done yet)")
    static void theTextThatHasComeStays() {
        StageRows x = neighbours();
        x.unit('(');
        Check.due("setUp", x.setUp(HERE, 0_321, 9), 0);
        reads(x, "b)", 1);
        Check.due("word", plain(x, 1), "b");
    }

    // Which of the shortest.

    @Says("the lesser move")
    static void ofTwoMovesThatDoTheSameTheLesser() {
        StageRows x = new StageRows(3, 6);
        for (int move = 5; move >= 2; move--) {
            cycle(x, move, 0, 1);
        }
        finds(x, HERE, 0_201, 9, "c");
    }

    @Says("or the same fewer times")
    static void ofTwoTimesThatDoTheSameTheFewer() {
        StageRows x = new StageRows(7, 1);
        cycle(x, 0, 0, 1);
        cycle(x, 0, 3, 4, 5, 6);
        finds(x, HERE, 0_201, 9, "a");
    }

    @Says("the lesser move")
    static void theLesserMoveBeforeFewerTimes() {
        StageRows x = new StageRows(3, 2);
        cycle(x, 0, 0, 1, 2);
        x.exchange(1, 0, 1);
        x.exchange(1, 0, 2);
        Check.due("b is a turned round", x.order(1), 3);
        finds(x, HERE, 0_102, 9, "a2");
    }

    @Says("of those with as many the one that has, at the first row that differs")
    static void theFirstRowBeforeTheSecond() {
        StageRows x = neighbours();
        finds(x, 0_310, 0_201, 9, "ac");
        finds(x, HERE, 0_123, 6, "abacba");
    }

    @Says("A SET-UP: the word with fewest rows")
    static void fewerRowsBeforeALesserMove() {
        StageRows x = new StageRows(3, 3);
        cycle(x, 0, 0, 1);
        cycle(x, 1, 1, 2);
        cycle(x, 2, 0, 2);
        finds(x, HERE, 0_012, 9, "c");
    }

    @Says("A SET-UP: the word with fewest rows")
    static void oneRowDoneOftenIsOneRow() {
        StageRows x = twelves();
        finds(x, 0_430, 0_361, 1, "a7");
        finds(x, 0_430, 0_362, 1, "a11");
    }

    @Says("A SET-UP: the word with fewest rows")
    static void severalRowsOfMovesDoneOften() {
        StageRows x = twoThrees();
        finds(x, HERE, 0_031, 9, "ab");
        finds(x, HERE, 0_104, 9, "a2b2");
        finds(x, HERE, 0_132, 9, "aba");
    }

    @Says("that brings three pieces from where they are now to three places")
    static void whatWasFoundBeforeDoesNotMatter() {
        StageRows x = new StageRows(6, 1);
        cycle(x, 0, 0, 1, 2);
        cycle(x, 0, 3, 4);
        finds(x, 0_530, 0_541, 9, "a");
        Check.due("not from one of six to one of three", x.setUp(0_530, HERE, 9), -1);
        Check.due("not from one of three to one of six", x.setUp(HERE, 0_530, 9), -1);
        finds(x, 0_530, 0_532, 9, "a2");
        Check.due("not to another six", x.setUp(0_530, 0_350, 9), -1);
    }

    // None, and no room.

    @Says("else -1 when there is none")
    static void whatNoWordDoes() {
        StageRows x = twoThrees();
        StageRows y = new StageRows(4, 1);
        y.exchange(0, 0, 1);
        Check.due("no move reaches 3", y.setUp(HERE, 0_310, 9), -1);
        Check.due("no move at all", new StageRows(7, 6).setUp(HERE, 0_310, 9), -1);
        Check.due("an even state does", x.setUp(HERE, 0_102, 9), 0);
        Check.noSuch("no word of -1", () -> y.length(0));
    }

    @Says("else -200 when there are 30 words")
    static void theThirtiethIsFoundTheNextIsNot() {
        StageRows x = neighbours();
        for (int word = 0; word < 30; word++) {
            Check.due("setUp", x.setUp(HERE, 0_201, 1), word);
        }
        Check.due("setUp", x.setUp(HERE, 0_201, 1), -200);
        Check.due("setUp of no rows", x.setUp(HERE, HERE, 0), -200);
        Check.due("the last", plain(x, 29), "a");
        Check.noSuch("no word more", () -> x.length(30));
        Check.due("pieces", pieces(x, 7), "0123456");
    }

    @Says("else -200 when there are 30 words")
    static void wordsThatWereReadCountToo() {
        StageRows x = neighbours();
        for (int word = 0; word < 29; word++) {
            reads(x, "a", word);
        }
        Check.due("the thirtieth", x.setUp(HERE, HERE, 0), 29);
        Check.due("one more", x.setUp(HERE, HERE, 0), -200);
    }

    @Says("else -1 when there is none; else -200 when there are 30 words")
    static void whichAnswerComesFirst() {
        StageRows x = neighbours();
        fillWords(x, 0, "a");
        Check.due("wrong deep before full", x.setUp(HERE, HERE, 10), -2);
        Check.due("wrong digits before full", x.setUp(HERE, 0_211, 0), -2);
        Check.due("none before full", x.setUp(HERE, 0_643, 9), -1);
        Check.due("too deep before full", x.setUp(HERE, 0_201, 0), -1);
        Check.due("full", x.setUp(HERE, 0_201, 1), -200);
        StageRows y = neighbours();
        Check.due("wrong before none", y.setUp(HERE, 0_643, -1), -2);
        Check.due("wrong before none", y.setUp(HERE, 0_733, 9), -2);
        Check.due("none", y.setUp(HERE, 0_643, 9), -1);
    }
}
