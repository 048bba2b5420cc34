/** Boundary cases of promise 8: image. */
final class Promise08Image extends Puzzles {
    @Says("Where a word brings what is at a place")
    static void aWordWithoutRowsLeavesAll() {
        for (int places = 2; places <= 7; places++) {
            StageRows x = new StageRows(places, 1);
            reads(x, "", 0);
            Check.due("images", images(x, 0, places), "0123456".substring(0, places));
        }
    }

    @Says("Where a word brings what is at a place")
    static void theFirstAndTheLastPlace() {
        for (int places = 2; places <= 7; places++) {
            int last = places - 1;
            StageRows x = new StageRows(places, 1);
            x.exchange(0, 0, last);
            reads(x, "a", 0);
            Check.due("image of the first", x.image(0, 0), last);
            Check.due("image of the last", x.image(0, last), 0);
        }
    }

    @Says("done from the first on")
    static void theFirstRowIsDoneFirst() {
        StageRows x = twoThrees();
        reads(x, "ab", 0);
        reads(x, "ba", 1);
        Check.due("images of ab", images(x, 0, 5), "13042");
        Check.due("images of ba", images(x, 1, 5), "12340");
    }

    @Says("Where a word brings what is at a place")
    static void fromOnceToAsOftenAsTheOrder() {
        StageRows x = new StageRows(7, 1);
        cycle(x, 0, 0, 1, 2, 3, 4, 5, 6);
        String[] texts = {"a", "a2", "a6", "a7", "a8", "a'"};
        String[] due = {"1234560", "2345601", "6012345", "0123456", "1234560", "6012345"};
        for (int i = 0; i < texts.length; i++) {
            reads(x, texts[i], i);
            Check.due("images of " + texts[i], images(x, i, 7), due[i]);
        }
    }

    @Says("Where a word brings what is at a place")
    static void ofFortyRows() {
        StageRows x = new StageRows(3, 2);
        x.exchange(0, 0, 1);
        x.exchange(1, 1, 2);
        reads(x, "((ab)5)4", 0);
        reads(x, "ab", 1);
        // ab turns three places, so twenty of them are as two.
        Check.due("images of ab", images(x, 1, 3), "201");
        Check.due("images of twenty", images(x, 0, 3), "120");
    }

    @Says("Where a word brings what is at a place")
    static void ofFortyRowsOfTheThirtiethWord() {
        StageRows x = new StageRows(3, 2);
        x.exchange(0, 0, 1);
        x.exchange(1, 1, 2);
        for (int word = 0; word < 29; word++) {
            reads(x, "b", word);
        }
        reads(x, "((ab)5)4", 29);
        Check.due("images of twenty", images(x, 29, 3), "120");
        Check.due("images of the one before", images(x, 28, 3), "021");
    }

    @Says("Where a word brings what is at a place")
    static void nothingIsLeftOfALongerWordThatIsGone() {
        StageRows x = neighbours();
        reads(x, "abcdef", 0);
        x.exchange(5, 0, 1);
        reads(x, "a", 0);
        Check.due("images", images(x, 0, 7), "1023456");
        x.exchange(5, 0, 1);
        reads(x, "", 0);
        Check.due("images", images(x, 0, 7), "0123456");
    }

    @Says("Where a word brings what is at a place")
    static void whereThePiecesAreDoesNotMatter() {
        StageRows x = twoThrees();
        reads(x, "ab", 0);
        x.swap(0, 4);
        x.act(0);
        Check.due("images", images(x, 0, 5), "13042");
    }

    @Says("ArrayIndexOutOfBoundsException: there is no such word")
    static void noSuchWord() {
        StageRows x = neighbours();
        noneOutside("image(n, 0)", 0, n -> x.image(n, 0));
        reads(x, "a", 0);
        noneOutside("image(n, 0)", 1, n -> x.image(n, 0));
        fillWords(x, 1, "a");
        noneOutside("image(n, 0)", 30, n -> x.image(n, 0));
    }

    @Says("or place")
    static void noSuchPlace() {
        for (int places = 2; places <= 7; places++) {
            StageRows x = new StageRows(places, 1);
            reads(x, "", 0);
            reads(x, "", 1);
            noneOutside("image(0, n)", places, n -> x.image(0, n));
            noneOutside("image(1, n)", places, n -> x.image(1, n));
        }
    }
}
