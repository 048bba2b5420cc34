/** Boundary cases of promise 16: did. */
final class Promise16Did extends Puzzles {
    /** A run did the words 2 and 0. */
    private static StageRows twoDone() {
        StageRows x = neighbourWords();
        stages(x, 3);
        x.goal(0, 0, true);
        x.goal(0, 3, true);
        x.use(0, 2);
        x.use(0, 0);
        x.swap(0, 1);
        x.swap(2, 3);
        Check.due("run", x.run(0), 2);
        return x;
    }

    @Says("-1 when there is none")
    static void beforeAnyRun() {
        StageRows x = neighbourWords();
        for (int k : new int[] {0, 1, 6, 7, -1, LOW, HIGH}) {
            Check.due("did(" + k + ")", x.did(k), -1);
        }
        x.act(0);
        Check.due("act() is no run", x.did(0), -1);
    }

    @Says("(from 0 on)")
    static void theFirstAndTheLast() {
        StageRows x = twoDone();
        Check.due("did(0)", x.did(0), 2);
        Check.due("did(1)", x.did(1), 0);
    }

    @Says("-1 when there is none")
    static void beforeTheFirstAndBehindTheLast() {
        StageRows x = twoDone();
        for (int k : new int[] {-1, -2, LOW, 2, 3, 5, 6, 7, 8, 12, 256, HIGH}) {
            Check.due("did(" + k + ")", x.did(k), -1);
        }
    }

    @Says("-1 when there is none")
    static void behindARunThatNeededNone() {
        StageRows x = twoDone();
        Check.due("run", x.run(1), 0);
        Check.due("did(0)", x.did(0), -1);
        Check.due("did(1)", x.did(1), -1);
    }

    @Says("The k-th word that the latest run() did")
    static void behindARunThatFailedAtOnce() {
        StageRows x = twoDone();
        x.goal(1, 5, true);
        x.swap(5, 6);
        Check.due("run", x.run(1), -1);
        Check.due("did(0)", x.did(0), -1);
        Check.due("did(1)", x.did(1), -1);
    }

    @Says("The k-th word that the latest run() did")
    static void behindARunThatFailedLater() {
        StageRows x = twoDone();
        x.goal(1, 1, true);
        x.goal(1, 5, true);
        x.use(1, 1);
        x.swap(1, 2);
        x.swap(5, 6);
        Check.due("run", x.run(1), -1);
        Check.due("did(0)", x.did(0), 1);
        Check.due("did(1)", x.did(1), -1);
    }

    @Says("The k-th word that the latest run() did")
    static void onlyARunIsARun() {
        StageRows x = twoDone();
        x.act(5);
        x.swap(0, 1);
        x.fails(0);
        x.states(0);
        x.setUp(0_210, 0_210, 1);
        reads(x, "b", 7);
        x.goal(0, 0, false);
        x.stage();
        Check.due("did", didAll(x), "2 0");
    }

    @Says("-1 when there is none")
    static void behindAnExchangeTheWordsAreGone() {
        StageRows x = twoDone();
        Check.due("exchange", x.exchange(5, 0, 1), true);
        Check.due("did(0)", x.did(0), -1);
        Check.due("did(1)", x.did(1), -1);
        reads(x, "a", 0);
        Check.due("did(0)", x.did(0), -1);
    }

    @Says("The k-th word that the latest run() did")
    static void behindAnExchangeOfOnePlaceTheyAreNot() {
        StageRows x = twoDone();
        Check.due("exchange", x.exchange(5, 1, 1), false);
        Check.due("did", didAll(x), "2 0");
        Check.noSuch("exchange", () -> one(x.exchange(5, 1, 7)));
        Check.due("did", didAll(x), "2 0");
    }

    @Says("The k-th word that the latest run() did")
    static void aRefusedRunIsNoRun() {
        StageRows x = twoDone();
        Check.noSuch("run(3)", () -> x.run(3));
        Check.due("did", didAll(x), "2 0");
    }
}
