/** Boundary cases of promise 20: text. */
final class Promise20Text extends Puzzles {
    @Says("with a digit (or two) when it is done more than once")
    static void onceHasNoDigit() {
        StageRows x = twelves();
        becomes(x, "a", "a");
        Check.due("text(0, 0)", x.text(0, 0), 'a');
        Check.due("text(0, 1)", x.text(0, 1), -1);
    }

    @Says("with a digit (or two) when it is done more than once")
    static void oneDigitFrom2To9() {
        StageRows x = twelves();
        for (int times = 2; times <= 9; times++) {
            becomes(x, "f" + times, "f" + times);
        }
        Check.due("text(7, 1)", x.text(7, 1), '9');
        Check.due("text(7, 2)", x.text(7, 2), -1);
    }

    @Says("with a digit (or two) when it is done more than once")
    static void twoDigitsFor10And11() {
        StageRows x = twelves();
        becomes(x, "a9a", "a10");
        becomes(x, "a9a2", "a11");
        Check.due("text(0, 1)", x.text(0, 1), '1');
        Check.due("text(0, 2)", x.text(0, 2), '0');
        Check.due("text(0, 3)", x.text(0, 3), -1);
        Check.due("text(1, 2)", x.text(1, 2), '1');
        Check.due("text(1, 3)", x.text(1, 3), -1);
    }

    @Says("each row its letter")
    static void theFirstAndTheLastLetter() {
        StageRows x = neighbours();
        becomes(x, "abcdef", "abcdef");
        becomes(x, "fedcba", "fedcba");
    }

    @Says("Byte i of a word in plain text")
    static void rowsOfDifferentSizes() {
        becomes(twelves(), "a'f2af9a9afa9a3fa", "a11f2af9a10f2a");
        becomes(twelves(), "fa2f2a9f9a9a2f9f", "fa2f2a9f9a11f10");
    }

    @Says("Byte i of a word in plain text")
    static void aHundredAndTwentyBytes() {
        StageRows x = twelves();
        reads(x, "((a'f')5)4", 0);
        Check.due("text(0, 0)", x.text(0, 0), 'a');
        Check.due("text(0, 117)", x.text(0, 117), 'f');
        Check.due("text(0, 118)", x.text(0, 118), '1');
        Check.due("text(0, 119)", x.text(0, 119), '1');
        Check.due("text(0, 120)", x.text(0, 120), -1);
    }

    @Says("-1 when there is none")
    static void beforeTheFirstAndBehindTheLastByte() {
        StageRows x = twelves();
        reads(x, "a'f2", 0);
        reads(x, "a", 1);
        Check.due("text(0, 4)", x.text(0, 4), '2');
        for (int i : new int[] {5, 6, 40, 120, 121, 256, HIGH, -1, -2, -256, LOW}) {
            Check.due("text(0, " + i + ")", x.text(0, i), -1);
        }
    }

    @Says("-1 when there is none")
    static void ofAWordWithoutRows() {
        StageRows x = twelves();
        reads(x, "", 0);
        reads(x, "a", 1);
        for (int i : new int[] {0, 1, -1, LOW, HIGH}) {
            Check.due("text(0, " + i + ")", x.text(0, i), -1);
        }
    }

    @Says("ArrayIndexOutOfBoundsException: there is no such word")
    static void noSuchWord() {
        StageRows x = neighbours();
        noneOutside("text(n, 0)", 0, n -> x.text(n, 0));
        reads(x, "a", 0);
        noneOutside("text(n, 0)", 1, n -> x.text(n, 0));
        fillWords(x, 1, "a");
        noneOutside("text(n, 0)", 30, n -> x.text(n, 0));
    }

    @Says("ArrayIndexOutOfBoundsException: there is no such word")
    static void noSuchWordAndNoSuchByte() {
        StageRows x = neighbours();
        reads(x, "a", 0);
        for (int i : new int[] {-1, 1, 120, LOW, HIGH}) {
            noneOutside("text(n, " + i + ")", 1, n -> x.text(n, i));
        }
    }
}
