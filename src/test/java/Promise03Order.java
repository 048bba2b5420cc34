/** Boundary cases of promise 3: order. */
final class Promise03Order extends Puzzles {
    @Says("the least number of times, at least 1, after which all is back")
    static void aMoveThatLeavesAllHasOrder1() {
        StageRows x = new StageRows(2, 6);
        for (int move = 0; move < 6; move++) {
            Check.due("order", x.order(move), 1);
        }
    }

    @Says("the least number of times, at least 1, after which all is back")
    static void aMoveThatLeavesAllAgainHasOrder1() {
        StageRows x = new StageRows(7, 1);
        cycle(x, 0, 0, 1, 2, 3, 4, 5, 6);
        Check.due("order of seven", x.order(0), 7);
        for (int place = 6; place > 0; place--) {
            x.exchange(0, place, place - 1);
        }
        Check.due("order of none", x.order(0), 1);
    }

    @Says("the least number of times, at least 1, after which all is back")
    static void oneRingOfEachSize() {
        StageRows x = new StageRows(7, 1);
        for (int size = 2; size <= 7; size++) {
            x.exchange(0, size - 2, size - 1);
            Check.due("order of a ring", x.order(0), size);
        }
    }

    @Says("the least number of times, at least 1, after which all is back")
    static void theGreatestOrderIsTwelve() {
        StageRows x = twelves();
        Check.due("rings of 3 and 4", x.order(0), 12);
        Check.due("of the last move", x.order(5), 12);
        Check.due("of the one beside it", x.order(4), 1);
    }

    @Says("the least number of times, at least 1, after which all is back")
    static void ringsTogetherHaveTheLeastNumberForAll() {
        StageRows x = new StageRows(7, 6);
        cycle(x, 0, 0, 1);
        cycle(x, 0, 2, 3, 4, 5, 6);
        Check.due("2 and 5", x.order(0), 10);
        cycle(x, 1, 0, 1);
        cycle(x, 1, 2, 3, 4);
        Check.due("2 and 3", x.order(1), 6);
        cycle(x, 2, 0, 1);
        cycle(x, 2, 2, 3, 4, 5);
        Check.due("2 and 4, not 8", x.order(2), 4);
        cycle(x, 3, 0, 1);
        cycle(x, 3, 2, 3);
        cycle(x, 3, 4, 5);
        Check.due("2, 2 and 2", x.order(3), 2);
        cycle(x, 4, 0, 1, 2);
        cycle(x, 4, 3, 4, 5);
        Check.due("3 and 3", x.order(4), 3);
        cycle(x, 5, 0, 1);
        cycle(x, 5, 2, 3);
        cycle(x, 5, 4, 5, 6);
        Check.due("2, 2 and 3", x.order(5), 6);
    }

    @Says("A move's ORDER")
    static void eachMoveHasItsOwn() {
        StageRows x = new StageRows(7, 6);
        for (int move = 0; move < 6; move++) {
            for (int place = 0; place <= move; place++) {
                x.exchange(move, place, place + 1);
            }
        }
        for (int move = 0; move < 6; move++) {
            Check.due("order(" + move + ")", x.order(move), move + 2);
        }
    }

    @Says("ArrayIndexOutOfBoundsException: there is no such move")
    static void noSuchMove() {
        for (int moves = 1; moves <= 6; moves++) {
            StageRows x = new StageRows(7, moves);
            noneOutside("order", moves, x::order);
        }
    }
}
