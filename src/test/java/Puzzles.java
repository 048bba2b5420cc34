/** What the tests of single promises share: puzzles, and calls that go together. */
abstract class Puzzles {
    static final int LOW = Integer.MIN_VALUE;
    static final int HIGH = Integer.MAX_VALUE;

    /** A call with one argument that is tried out. */
    interface Asked {
        long answer(int n);
    }

    /** Takes a text and reads it. */
    static int read(StageRows x, String text) {
        for (int i = 0; i < text.length(); i++) {
            Check.due("unit of " + text, x.unit(text.charAt(i)), true);
        }
        return x.read();
    }

    static void reads(StageRows x, String text, int due) {
        Check.due("read " + text, read(x, text), due);
    }

    /** Reads a text again and again until there are 30 words. */
    static void fillWords(StageRows x, int from, String text) {
        for (int word = from; word < 30; word++) {
            reads(x, text, word);
        }
    }

    /** A word in plain text. */
    static String plain(StageRows x, int word) {
        StringBuilder all = new StringBuilder();
        for (int i = 0; i <= 120; i++) {
            int unit = x.text(word, i);
            if (unit == -1) {
                break;
            }
            all.append((char) unit);
        }
        return all.toString();
    }

    /** What word a text is read as, in plain text. */
    static void becomes(StageRows x, String text, String due) {
        Check.due("word of " + text, plain(x, read(x, text)), due);
    }

    static String pieces(StageRows x, int places) {
        StringBuilder all = new StringBuilder();
        for (int place = 0; place < places; place++) {
            all.append(x.at(place));
        }
        return all.toString();
    }

    /** Where a word brings what is at each place. */
    static String images(StageRows x, int word, int places) {
        StringBuilder all = new StringBuilder();
        for (int place = 0; place < places; place++) {
            all.append(x.image(word, place));
        }
        return all.toString();
    }

    /** What the latest run did. */
    static String didAll(StageRows x) {
        StringBuilder all = new StringBuilder();
        for (int k = 0; k < 8 && x.did(k) != -1; k++) {
            all.append(x.did(k)).append(' ');
        }
        return all.toString().trim();
    }

    /** All numbers near the ends of 0 .. count - 1 that are not in it, and some far away. */
    static void noneOutside(String what, int count, Asked call) {
        int[] outside = {-1, -2, count, count + 1, count + 256, -256, LOW, HIGH};
        for (int n : outside) {
            Check.noSuch(what + " with " + n, () -> call.answer(n));
        }
    }

    /** A call that answers nothing, as one that answers 0. */
    static long act(StageRows x, int word) {
        x.act(word);
        return 0;
    }

    static long one(boolean answer) {
        return answer ? 1 : 0;
    }

    /** Makes a move bring each place of a row to the next one, and the last to the first. */
    static void cycle(StageRows x, int move, int... places) {
        for (int i = 0; i + 1 < places.length; i++) {
            Check.due("exchange", x.exchange(move, places[i], places[i + 1]), true);
        }
    }

    /** Five places; a brings 0 to 1 to 2 to 0, b brings 2 to 3 to 4 to 2. */
    static StageRows twoThrees() {
        StageRows x = new StageRows(5, 2);
        cycle(x, 0, 0, 1, 2);
        cycle(x, 1, 2, 3, 4);
        return x;
    }

    /** Six moves of seven places, each exchanging neighbours. */
    static StageRows neighbours() {
        StageRows x = new StageRows(7, 6);
        for (int move = 0; move < 6; move++) {
            cycle(x, move, move, move + 1);
        }
        return x;
    }

    /** The neighbours, and the words 0 .. 5 of a single move each. */
    static StageRows neighbourWords() {
        StageRows x = neighbours();
        for (int move = 0; move < 6; move++) {
            reads(x, String.valueOf((char) ('a' + move)), move);
        }
        return x;
    }

    /** Seven places and six moves; a and f have the order 12, b to e leave all. */
    static StageRows twelves() {
        StageRows x = new StageRows(7, 6);
        for (int move = 0; move < 6; move += 5) {
            cycle(x, move, 0, 1, 2);
            cycle(x, move, 3, 4, 5, 6);
        }
        return x;
    }

    /** Stages without goal and words, as many as told. */
    static void stages(StageRows x, int count) {
        for (int stage = 0; stage < count; stage++) {
            Check.due("stage()", x.stage(), stage);
        }
    }
}
