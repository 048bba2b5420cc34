import java.util.ArrayList;
import java.util.List;
import java.util.Random;
import java.util.function.Consumer;
import java.util.function.ToLongFunction;

/** What "What it is" says: the class used as a whole, and for as long as it may be. */
final class WhatItIs extends Puzzles {
    private static final int MOST_CALLS = 512;

    @Says("Stages for turning puzzles: words of moves, read from a text, shortened and done")
    static void aWordFromItsTextToThePieces() {
        StageRows x = twoThrees();
        becomes(x, "b3(ab)2(ab)'a'", "aba2");
        x.act(0);
        Check.due("pieces", pieces(x, 5), "04213");
    }

    @Says("stages with goals by pieces, each with words that are tried in order")
    static void twoStagesOneBehindTheOther() {
        StageRows x = neighbourWords();
        reads(x, "fe", 6);
        reads(x, "ef", 7);
        stages(x, 2);
        x.goal(0, 6, true);
        x.use(0, 5);
        x.use(0, 7);
        x.goal(1, 4, true);
        x.goal(1, 5, true);
        x.use(1, 5);
        x.use(1, 4);
        x.act(6);
        Check.due("6 is two places away", pieces(x, 7), "0123645");
        Check.due("run(0)", x.run(0), 1);
        Check.due("f does not help, ef does", x.did(0), 7);
        x.swap(4, 5);
        Check.due("run(1)", x.run(1), 1);
        Check.due("f does not help, e does", x.did(0), 4);
        Check.due("pieces", pieces(x, 7), "0123456");
    }

    @Says("threes made by words and words turned round")
    static void twoMovesWithOnePlaceInCommonMakeAThree() {
        StageRows x = twoThrees();
        reads(x, "[a,b]", 0);
        reads(x, "[a,b]'", 1);
        reads(x, "[a,b]3", 2);
        Check.due("1 to 2 to 4 to 1", images(x, 0, 5), "02431");
        Check.due("turned round", images(x, 1, 5), "04132");
        x.act(0);
        x.act(1);
        Check.due("both", pieces(x, 5), "01234");
        Check.due("three times", images(x, 2, 5), "01234");
    }

    @Says("set-ups found by shallow search")
    static void aSetUpLetsOneThreeTurnAnyThreePieces() {
        for (int a = 0; a < 5; a++) {
            for (int b = 0; b < 5; b++) {
                for (int c = 0; c < 5; c++) {
                    if (a != b && a != c && b != c) {
                        turnsThree(a, b, c);
                    }
                }
            }
        }
    }

    /** There and back with the three 1 to 2 to 4 to 1 between. */
    private static void turnsThree(int a, int b, int c) {
        StageRows x = twoThrees();
        Check.due("setUp", x.setUp(a + 8 * b + 64 * c, 0_421, 9), 0);
        String there = plain(x, 0);
        reads(x, there + "[a,b](" + there + ")'", 1);
        x.act(1);
        Check.due("where " + b + " was", x.at(b), a);
        Check.due("where " + c + " was", x.at(c), b);
        Check.due("where " + a + " was", x.at(a), c);
    }

    // Told whether a stage ends.

    @Says("told whether a stage ends for every state that can come")
    static void failsIsWhatRunsFromAllStatesComeTo() {
        int endAlways = 0;
        for (int seed = 0; seed < 60; seed++) {
            endAlways += failsByRuns(seed, 0) == 0 ? 1 : 0;
            endAlways += failsByRuns(seed, 1) == 0 ? 1 : 0;
        }
        Check.due("some always end and some do not", endAlways > 15 && endAlways < 105, true);
    }

    /** Four places, three moves and two stages, drawn from a seed. */
    private static StageRows twoStages(int seed) {
        Random random = new Random(seed);
        StageRows x = new StageRows(4, 3);
        for (int i = 0; i < 6; i++) {
            x.exchange(i % 3, random.nextInt(4), random.nextInt(4));
        }
        String[] texts = {"a", "b", "c", "[a,b]", "[b,c]'", "abc"};
        for (int word = 0; word < texts.length; word++) {
            reads(x, texts[word], word);
        }
        stages(x, 2);
        for (int i = 0; i < 3; i++) {
            x.goal(random.nextInt(2), random.nextInt(4), true);
        }
        for (int i = 0; i < 16; i++) {
            x.use(random.nextInt(2), random.nextInt(texts.length));
        }
        return x;
    }

    /** How often a stage fails, or loses stage 0's goal, when it is run from each state. */
    private static int failsByRuns(int seed, int stage) {
        int states = 0;
        int fails = 0;
        for (String state : statesThatCanCome(twoStages(seed))) {
            if (stage == 0 || meetsStage0(seed, state)) {
                StageRows x = twoStages(seed);
                bringAbout(x, state);
                boolean ends = x.run(stage) >= 0;
                states++;
                fails += ends && (stage == 0 || meetsStage0(seed, pieces(x, 4))) ? 0 : 1;
            }
        }
        StageRows x = twoStages(seed);
        Check.due("states(" + stage + ") of " + seed, x.states(stage), states);
        Check.due("fails(" + stage + ") of " + seed, x.fails(stage), fails);
        return fails;
    }

    private static List<String> statesThatCanCome(StageRows x) {
        String[] moves = {images(x, 0, 4), images(x, 1, 4), images(x, 2, 4)};
        List<String> all = new ArrayList<>(List.of("0123"));
        for (int i = 0; i < all.size(); i++) {
            for (String images : moves) {
                char[] next = new char[4];
                for (int place = 0; place < 4; place++) {
                    next[images.charAt(place) - '0'] = all.get(i).charAt(place);
                }
                if (!all.contains(new String(next))) {
                    all.add(new String(next));
                }
            }
        }
        return all;
    }

    private static void bringAbout(StageRows x, String state) {
        for (int place = 0; place < 4; place++) {
            x.swap(place, pieces(x, 4).indexOf(state.charAt(place)));
        }
        Check.due("the state", pieces(x, 4), state);
    }

    private static boolean meetsStage0(int seed, String state) {
        StageRows x = twoStages(seed);
        for (int piece = 0; piece < 4; piece++) {
            boolean ofGoal = !x.goal(0, piece, true);
            if (ofGoal && state.charAt(piece) - '0' != piece) {
                return false;
            }
        }
        return true;
    }

    // How long an object may be used.

    /** One call each, so that they can be counted. */
    private static final List<Consumer<StageRows>> BEGINNING = List.of(
        x -> x.exchange(0, 0, 1), x -> x.exchange(1, 1, 2), x -> x.unit('a'), x -> x.unit('b'),
        StageRows::read, x -> x.stage(), x -> x.goal(0, 0, true), x -> x.use(0, 0), x -> x.swap(0, 2),
        x -> x.run(0), x -> x.unit('b'), x -> x.swap(1, 2));

    private static final List<ToLongFunction<StageRows>> LAST = List.of(
        x -> one(x.exchange(0, 1, 2)), x -> x.order(1), x -> one(x.unit('a')), StageRows::read,
        x -> x.length(0), x -> x.row(0, 1), x -> x.image(0, 2), x -> act(x, 0), x -> one(x.swap(0, 1)),
        x -> x.at(1), StageRows::stage, x -> one(x.goal(0, 1, true)), x -> one(x.use(0, 0)),
        x -> x.run(0), x -> x.did(0), x -> x.states(0), x -> x.fails(0), x -> x.setUp(0_210, 0_102, 9),
        x -> x.text(0, 1), x -> x.length(1), x -> x.run(1), x -> x.at(3), x -> x.order(2));

    private static StageRows begun() {
        StageRows x = new StageRows(3, 2);
        BEGINNING.forEach(call -> call.accept(x));
        return x;
    }

    @Says("An object is used for at most 512 calls after it has been made")
    static void the512thCallAnswersAsTheOthers() {
        for (int i = 0; i < LAST.size(); i++) {
            ToLongFunction<StageRows> call = LAST.get(i);
            StageRows early = begun();
            StageRows late = begun();
            for (int calls = BEGINNING.size(); calls < MOST_CALLS - 1; calls++) {
                late.did(calls);
            }
            String due = Check.told(() -> call.applyAsLong(early));
            Check.due("call " + i + " as the 512th", Check.told(() -> call.applyAsLong(late)), due);
        }
    }

    @Says("what later calls answer is free")
    static void laterCallsThrowNothingElse() {
        Random random = new Random(1);
        StageRows x = begun();
        for (int i = 0; i < 10 * MOST_CALLS; i++) {
            ToLongFunction<StageRows> call = LAST.get(random.nextInt(LAST.size()));
            String told = Check.told(() -> call.applyAsLong(x));
            Check.due("answered " + told, told.matches("-?\\d+|ArrayIndexOutOfBoundsException"), true);
        }
    }
}
