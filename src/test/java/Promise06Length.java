/** Boundary cases of promise 6: length. */
final class Promise06Length extends Puzzles {
    @Says("How many rows a word has")
    static void noRows() {
        StageRows x = neighbours();
        reads(x, "", 0);
        reads(x, "aa", 1);
        Check.due("of an empty text", x.length(0), 0);
        Check.due("of what comes to nothing", x.length(1), 0);
    }

    @Says("How many rows a word has")
    static void fortyRows() {
        StageRows x = neighbours();
        reads(x, "((ab)5)4", 0);
        Check.due("length", x.length(0), 40);
    }

    @Says("How many rows a word has")
    static void aLetterDoneOftenIsOneRow() {
        StageRows x = twelves();
        reads(x, "a9a2", 0);
        reads(x, "a9a2f'a", 1);
        Check.due("a eleven times", x.length(0), 1);
        Check.due("three rows", x.length(1), 3);
    }

    @Says("ArrayIndexOutOfBoundsException: there is no such word")
    static void noWordYet() {
        StageRows x = neighbours();
        noneOutside("length", 0, x::length);
    }

    @Says("ArrayIndexOutOfBoundsException: there is no such word")
    static void behindTheLastWord() {
        StageRows x = neighbours();
        for (int words = 1; words <= 4; words++) {
            reads(x, "a", words - 1);
            noneOutside("length", words, x::length);
        }
    }

    @Says("ArrayIndexOutOfBoundsException: there is no such word")
    static void behindThirtyWords() {
        StageRows x = neighbours();
        fillWords(x, 0, "a");
        Check.due("the last", x.length(29), 1);
        noneOutside("length", 30, x::length);
    }

    @Says("ArrayIndexOutOfBoundsException: there is no such word")
    static void afterAWordThatWasRefused() {
        StageRows x = neighbours();
        reads(x, "a)", -2);
        Check.noSuch("length(0)", () -> x.length(0));
        reads(x, "((ab)5)4a", -200);
        Check.noSuch("length(0)", () -> x.length(0));
        Check.due("setUp", x.setUp(0_210, 0_543, 8), -1);
        Check.noSuch("length(0)", () -> x.length(0));
    }

    @Says("ArrayIndexOutOfBoundsException: there is no such word")
    static void afterAnExchange() {
        StageRows x = neighbourWords();
        x.exchange(0, 0, 2);
        noneOutside("length", 0, x::length);
    }
}
