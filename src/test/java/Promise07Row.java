/** Boundary cases of promise 7: row. */
final class Promise07Row extends Puzzles {
    @Says("Row k of a word: 16 times its move, and how often")
    static void theLeastAndTheGreatestRow() {
        StageRows x = twelves();
        reads(x, "af'", 0);
        Check.due("a once", x.row(0, 0), 1);
        Check.due("f eleven times", x.row(0, 1), 16 * 5 + 11);
    }

    @Says("Row k of a word: 16 times its move, and how often")
    static void theFirstAndTheFortiethRow() {
        StageRows x = neighbours();
        reads(x, "((ab)5)4", 0);
        Check.due("row(0, 0)", x.row(0, 0), 1);
        Check.due("row(0, 38)", x.row(0, 38), 1);
        Check.due("row(0, 39)", x.row(0, 39), 17);
    }

    @Says("Row k of a word: 16 times its move, and how often")
    static void ofTheFirstAndTheThirtiethWord() {
        StageRows x = neighbours();
        for (int word = 0; word < 30; word++) {
            reads(x, word % 2 == 0 ? "abc" : "fed", word);
        }
        for (int word = 0; word < 30; word++) {
            int due = word % 2 == 0 ? 33 : 49;
            Check.due("row(" + word + ", 2)", x.row(word, 2), due);
        }
    }

    @Says("-1 when there is none")
    static void beforeTheFirstRow() {
        StageRows x = neighbours();
        reads(x, "abc", 0);
        reads(x, "abc", 1);
        for (int word = 0; word < 2; word++) {
            Check.due("row(.., -1)", x.row(word, -1), -1);
            Check.due("row(.., -40)", x.row(word, -40), -1);
            Check.due("row(.., least)", x.row(word, LOW), -1);
        }
    }

    @Says("-1 when there is none")
    static void behindTheLastRow() {
        StageRows x = neighbours();
        reads(x, "abc", 0);
        reads(x, "cde", 1);
        Check.due("row(0, 2)", x.row(0, 2), 33);
        for (int k : new int[] {3, 4, 39, 40, 41, 1200, HIGH}) {
            Check.due("row(0, " + k + ")", x.row(0, k), -1);
        }
    }

    @Says("-1 when there is none")
    static void behindFortyRows() {
        StageRows x = neighbours();
        reads(x, "((ab)5)4", 0);
        reads(x, "cde", 1);
        Check.due("row(0, 40)", x.row(0, 40), -1);
        Check.due("row(0, 41)", x.row(0, 41), -1);
        Check.due("row(1, -1)", x.row(1, -1), -1);
    }

    @Says("-1 when there is none")
    static void ofAWordWithoutRows() {
        StageRows x = neighbours();
        reads(x, "abc", 0);
        reads(x, "", 1);
        for (int k : new int[] {0, 1, -1, LOW, HIGH}) {
            Check.due("row(1, " + k + ")", x.row(1, k), -1);
        }
    }

    @Says("-1 when there is none")
    static void nothingIsLeftOfALongerWordThatIsGone() {
        StageRows x = neighbours();
        reads(x, "abcdef", 0);
        x.exchange(0, 0, 2);
        reads(x, "b", 0);
        Check.due("row(0, 0)", x.row(0, 0), 17);
        Check.due("row(0, 1)", x.row(0, 1), -1);
    }

    @Says("ArrayIndexOutOfBoundsException: there is no such word")
    static void noSuchWord() {
        StageRows x = neighbours();
        noneOutside("row(n, 0)", 0, n -> x.row(n, 0));
        reads(x, "abc", 0);
        noneOutside("row(n, 0)", 1, n -> x.row(n, 0));
        fillWords(x, 1, "a");
        noneOutside("row(n, 0)", 30, n -> x.row(n, 0));
    }

    @Says("ArrayIndexOutOfBoundsException: there is no such word")
    static void noSuchWordAndNoSuchRow() {
        StageRows x = neighbours();
        reads(x, "abc", 0);
        for (int k : new int[] {-1, 3, 40, LOW, HIGH}) {
            noneOutside("row(n, " + k + ")", 1, n -> x.row(n, k));
        }
    }
}
