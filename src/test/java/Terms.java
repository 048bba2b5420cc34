import java.util.Random;

/** What "Terms" says, held for puzzles and texts drawn from fixed seeds. */
final class Terms extends Puzzles {
    private static final int DRAWN = 200;
    private static final int SINGLES = 6;

    /** A puzzle drawn from a seed, whose moves a to f are also its words 0 to 5. */
    private static StageRows drawn(int seed, int places) {
        Random random = new Random(seed);
        StageRows x = new StageRows(places, SINGLES);
        for (int move = 0; move < SINGLES; move++) {
            int exchanges = random.nextInt(7);
            for (int i = 0; i < exchanges; i++) {
                x.exchange(move, random.nextInt(places), random.nextInt(places));
            }
        }
        for (int move = 0; move < SINGLES; move++) {
            reads(x, String.valueOf((char) ('a' + move)), move);
        }
        return x;
    }

    private static int placesOf(int seed) {
        return 2 + seed % 6;
    }

    private static String letters(Random random, int many) {
        StringBuilder all = new StringBuilder();
        for (int i = 0; i < many; i++) {
            all.append((char) ('a' + random.nextInt(3)));
        }
        return all.toString();
    }

    /** Some letters of few moves with digits and turns: much of it comes to nothing. */
    private static String tail(Random random, int many) {
        StringBuilder all = new StringBuilder();
        for (char letter : letters(random, many).toCharArray()) {
            all.append(letter);
            all.append(random.nextInt(3) == 0 ? String.valueOf(2 + random.nextInt(8)) : "");
            all.append(random.nextInt(3) == 0 ? "'" : "");
        }
        return all.toString();
    }

    /** In a drawn puzzle two texts are read as words with the same rows. */
    private static void alike(int seed, String text, String other) {
        StageRows x = drawn(seed, placesOf(seed));
        reads(x, text, SINGLES);
        reads(x, other, SINGLES + 1);
        Check.due(text + " is as " + other, plain(x, SINGLES), plain(x, SINGLES + 1));
    }

    // Places, moves, words.

    @Says("PLACES 0 .. places - 1 have a PIECE each, at first that of the same number")
    static void eachPlaceHasItsPieceAndNoTwoTheSame() {
        for (int seed = 0; seed < DRAWN; seed++) {
            int places = placesOf(seed);
            StageRows x = drawn(seed, places);
            Check.due("at first", pieces(x, places), "0123456".substring(0, places));
            x.act(seed % SINGLES);
            x.swap(0, places - 1);
            Check.due("pieces then", sorted(pieces(x, places)), "0123456".substring(0, places));
            noneOutside("at", places, x::at);
        }
    }

    private static String sorted(String text) {
        return text.chars().sorted().collect(StringBuilder::new, StringBuilder::appendCodePoint,
            StringBuilder::append).toString();
    }

    @Says("A MOVE is a letter a to f; it brings what is at each place to some place, no two to one")
    static void aMoveBringsEachPieceToAPlaceOfItsOwn() {
        for (int seed = 0; seed < DRAWN; seed++) {
            int places = placesOf(seed);
            for (int move = 0; move < SINGLES; move++) {
                StageRows x = drawn(seed, places);
                String images = images(x, move, places);
                Check.due("images of move " + move, sorted(images), "0123456".substring(0, places));
                x.act(move);
                for (int place = 0; place < places; place++) {
                    Check.due("where " + place + " is", x.at(images.charAt(place) - '0'), place);
                }
            }
        }
    }

    @Says("its ORDER is the least number of times, at least 1, after which all is back")
    static void allIsBackAfterTheOrderAndNotBefore() {
        for (int seed = 0; seed < DRAWN; seed++) {
            int places = placesOf(seed);
            for (int move = 0; move < SINGLES; move++) {
                StageRows x = drawn(seed, places);
                int times = 0;
                do {
                    x.act(move);
                    times++;
                } while (times < 12 && !pieces(x, places).equals("0123456".substring(0, places)));
                Check.due("order of move " + move, x.order(move), times);
            }
        }
    }

    @Says("A WORD is a row of letters, each with a number of times 1 .. its move's order less 1, "
        + "at most 40 of them, no two side by side with the same letter; done from the first on")
    static void rowsAreAsTheyMustBe() {
        Random random = new Random(1);
        for (int seed = 0; seed < DRAWN; seed++) {
            StageRows x = drawn(seed, placesOf(seed));
            int word = read(x, tail(random, 25));
            int length = x.length(word);
            Check.due("at most 40", length <= 40, true);
            int before = -1;
            for (int k = 0; k < length; k++) {
                int move = x.row(word, k) >> 4;
                int times = x.row(word, k) & 15;
                Check.due("another letter than before", move != before, true);
                Check.due("times", times >= 1 && times < x.order(move), true);
                before = move;
            }
        }
    }

    @Says("done from the first on")
    static void aWordIsDoneRowByRow() {
        Random random = new Random(2);
        for (int seed = 0; seed < DRAWN; seed++) {
            int places = placesOf(seed);
            String text = tail(random, 12);
            StageRows x = drawn(seed, places);
            x.act(read(x, text));
            StageRows y = drawn(seed, places);
            int word = read(y, text);
            for (int k = 0; k < y.length(word); k++) {
                for (int time = 0; time < (y.row(word, k) & 15); time++) {
                    y.act(y.row(word, k) >> 4);
                }
            }
            Check.due("pieces behind " + text, pieces(x, places), pieces(y, places));
        }
    }

    @Says("(Moves with order 1 are in no words.)")
    static void noRowOfAMoveThatLeavesAll() {
        StageRows x = twelves();
        becomes(x, "abcdef", "af");
        becomes(x, "(b2c'd9'e)3", "");
        becomes(x, "[ab,cf]", "afa11f11");
        Check.due("setUp", x.setUp(0_210, 0_102, 9), 3);
        Check.due("its word", plain(x, 3), "a2");
    }

    // Texts.

    @Says("TEXTS of words, in bytes: PART, any number of them: a letter a to f of a move; "
        + "or \"(\" PART, any number, \")\"; or \"[\" PART any number \",\" PART any number \"]\": "
        + "U, V, then U turned round, then V turned round")
    static void squareBracketsAreWhatTheyStandFor() {
        Random random = new Random(3);
        for (int seed = 0; seed < DRAWN; seed++) {
            String u = letters(random, random.nextInt(5));
            String v = tail(random, random.nextInt(4));
            alike(seed, "[" + u + "," + v + "]", u + v + "(" + u + ")'(" + v + ")'");
            alike(seed, "[(" + u + ")," + v + "]2'", "([" + u + ",(" + v + ")]2)'");
            alike(seed, "(" + u + ")" + v, u + "(" + v + ")");
        }
    }

    @Says("Each may have \"'\" behind it (turned round), or a digit 2 .. 9 (as often), or a digit and then \"'\"")
    static void aDigitIsAsOften() {
        Random random = new Random(4);
        for (int seed = 0; seed < DRAWN; seed++) {
            int times = 2 + seed % 8;
            String u = letters(random, 2);
            alike(seed, "(" + u + ")" + times, u.repeat(times));
            alike(seed, "(" + u + ")" + times + "'", "(" + u.repeat(times) + ")'");
            alike(seed, "a" + times, "a".repeat(times));
            alike(seed, "a" + times + "'", "a'".repeat(times));
            alike(seed, "[a,b]" + times, "[a,b]".repeat(times));
        }
    }

    @Says("Turned round: the rows of it from the last one on, each the other way")
    static void turnedRoundItUndoes() {
        Random random = new Random(5);
        for (int seed = 0; seed < DRAWN; seed++) {
            StageRows x = drawn(seed, placesOf(seed));
            String u = tail(random, random.nextInt(12));
            int word = read(x, u);
            int back = read(x, "(" + u + ")'");
            int length = x.length(word);
            Check.due("as many rows", x.length(back), length);
            for (int k = 0; k < length; k++) {
                int move = x.row(word, k) >> 4;
                int other = x.order(move) - (x.row(word, k) & 15);
                Check.due("row " + k, x.row(back, length - 1 - k), 16 * move + other);
            }
            Check.due("both", x.length(read(x, u + "(" + u + ")'")), 0);
        }
    }

    /** A text of letters d alone, and how many ROWS come in all. */
    private static int manyRows(Random random, StringBuilder text, int deep) {
        int rows = 0;
        int parts = random.nextInt(3) + (deep == 0 ? 1 : 0);
        for (int i = 0; i < parts; i++) {
            int kind = deep == 0 ? 0 : random.nextInt(3);
            int part = 1;
            if (kind == 0) {
                text.append('d');
            } else if (kind == 1) {
                text.append('(');
                part = manyRows(random, text, deep - 1);
                text.append(')');
            } else {
                text.append('[');
                part = 2 * manyRows(random, text, deep - 1);
                text.append(',');
                part += 2 * manyRows(random, text, deep - 1);
                text.append(']');
            }
            if (random.nextInt(2) == 0) {
                int times = 2 + random.nextInt(8);
                text.append(times);
                part *= kind == 0 ? 1 : times;
            }
            text.append(random.nextInt(4) == 0 ? "'" : "");
            rows += part;
        }
        return rows;
    }

    @Says("ROWS that come in all: one for each letter (with its digit or not), "
        + "all of them as often as what they stand in is done")
    static void fourHundredAtMost() {
        Random random = new Random(6);
        int fewer = 0;
        int more = 0;
        while (fewer < DRAWN || more < DRAWN) {
            StringBuilder text = new StringBuilder();
            int rows = manyRows(random, text, 4);
            if (rows < 100 || text.length() > 100) {
                continue;
            }
            fewer += rows <= 400 ? 1 : 0;
            more += rows > 400 ? 1 : 0;
            // d leaves all, so that the word is short however many rows come.
            reads(new StageRows(3, 4), text.toString(), rows <= 400 ? 0 : -200);
        }
    }

    @Says("Then the word is SHORTENED: what is done with the same letter side by side is put together, "
        + "by its order; what comes to nothing goes, and what stands around it is side by side then")
    static void whatComesToNothingMakesNoDifference() {
        Random random = new Random(7);
        for (int seed = 0; seed < DRAWN; seed++) {
            int order = drawn(seed, placesOf(seed)).order(1);
            String u = tail(random, random.nextInt(8));
            String v = tail(random, random.nextInt(8));
            String w = tail(random, 5);
            alike(seed, u + v, u + w + "(" + w + ")'" + v);
            alike(seed, u + "a3" + v, u + "aaa" + v);
            alike(seed, u + "b" + v, u + "b" + "b".repeat(order) + v);
        }
    }

    // Stages.

    @Says("STAGES 0, 1, .. have a GOAL: some pieces (each to be at home), and words, which are tried in order")
    static void eachStageHasItsOwnGoalAndWords() {
        StageRows x = neighbourWords();
        stages(x, 8);
        for (int stage = 0; stage < 6; stage++) {
            x.goal(stage, stage, true);
            x.use(stage, 5 - stage);
            x.use(stage, stage);
        }
        for (int stage = 0; stage < 6; stage++) {
            x.swap(stage, stage + 1);
            Check.due("run(" + stage + ")", x.run(stage), 1);
            Check.due("the word that helps", x.did(0), stage);
            Check.due("pieces", pieces(x, 7), "0123456");
        }
    }

    @Says("A STAGE is DONE to a state: as long as its goal is not met, the first of its words is done "
        + "behind which more pieces of the goal are at home than before; when there is none it FAILS")
    static void runIsWhatTryingByHandComesTo() {
        int failed = 0;
        for (int seed = 0; seed < DRAWN; seed++) {
            failed += failsByHand(seed, placesOf(seed)) ? 1 : 0;
        }
        Check.due("some fail and some do not", failed > 20 && failed < DRAWN - 20, true);
    }

    /** Runs a drawn stage, and tries its words by hand: whether it fails. */
    private static boolean failsByHand(int seed, int places) {
        Random random = new Random(seed);
        int goal = 1 + random.nextInt((1 << places) - 1);
        int[] used = random.ints(SINGLES, 0, SINGLES).toArray();
        StageRows x = staged(seed, goal, used);
        x.act(random.nextInt(SINGLES));
        x.act(random.nextInt(SINGLES));
        String[] images = new String[SINGLES];
        for (int word = 0; word < SINGLES; word++) {
            images[word] = images(x, word, places);
        }
        String now = pieces(x, places);
        StringBuilder due = new StringBuilder();
        int words = 0;
        for (int word = firstThatHelps(images, used, now, goal); word >= 0; words++) {
            due.append(word).append(' ');
            now = behind(images[word], now);
            word = firstThatHelps(images, used, now, goal);
        }
        boolean met = home(now, goal) == Integer.bitCount(goal);
        Check.due("run", x.run(0), met ? words : -1);
        Check.due("words done", didAll(x), due.toString().trim());
        Check.due("pieces behind it", pieces(x, places), now);
        return !met;
    }

    /** A drawn puzzle with a stage. */
    private static StageRows staged(int seed, int goal, int[] used) {
        StageRows x = drawn(seed, placesOf(seed));
        stages(x, 1);
        for (int piece = 0; piece < placesOf(seed); piece++) {
            Check.due("goal", x.goal(0, piece, true), true);
            if ((goal >> piece & 1) == 0) {
                Check.due("no goal", x.goal(0, piece, false), true);
            }
        }
        for (int word : used) {
            Check.due("use", x.use(0, word), true);
        }
        return x;
    }

    private static int firstThatHelps(String[] images, int[] used, String now, int goal) {
        for (int word : used) {
            if (home(behind(images[word], now), goal) > home(now, goal)) {
                return word;
            }
        }
        return -1;
    }

    private static String behind(String images, String now) {
        char[] next = new char[now.length()];
        for (int place = 0; place < next.length; place++) {
            next[images.charAt(place) - '0'] = now.charAt(place);
        }
        return new String(next);
    }

    private static int home(String state, int goal) {
        int home = 0;
        for (int place = 0; place < state.length(); place++) {
            home += state.charAt(place) - '0' == place ? goal >> place & 1 : 0;
        }
        return home;
    }

    @Says("(States: which piece is at each place.)")
    static void statesDifferWhenAPieceIsElsewhere() {
        StageRows x = new StageRows(3, 2);
        cycle(x, 0, 0, 1);
        stages(x, 1);
        Check.due("two exchanged", x.states(0), 2);
        cycle(x, 1, 1, 2);
        stages(x, 1);
        Check.due("three in each way", x.states(0), 6);
    }
}
