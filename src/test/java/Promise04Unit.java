/** Boundary cases of promise 4: unit. */
final class Promise04Unit extends Puzzles {
    @Says("A byte comes behind the text: true")
    static void theLeastByteComes() {
        StageRows x = new StageRows(3, 1);
        Check.due("unit(0)", x.unit(0), true);
        Check.due("it is in the text", x.read(), -1);
    }

    @Says("A byte comes behind the text: true")
    static void theGreatestByteComes() {
        StageRows x = new StageRows(3, 1);
        Check.due("unit(255)", x.unit(255), true);
        Check.due("it is in the text", x.read(), -1);
    }

    @Says("A byte comes behind the text: true")
    static void theByteComesBehindTheOthers() {
        StageRows x = new StageRows(3, 1);
        Check.due("unit", x.unit('a'), true);
        Check.due("unit", x.unit('a'), true);
        Check.due("unit", x.unit(0), true);
        Check.due("the third one", x.read(), -3);
    }

    @Says("false when it is not 0 .. 255")
    static void lessThan0() {
        // 'a' less 256 has the bits of an 'a' in its lowest byte.
        refused(new int[] {-1, -2, 'a' - 256, -256, LOW, LOW + 'a'});
    }

    @Says("false when it is not 0 .. 255")
    static void moreThan255() {
        refused(new int[] {256, 257, 'a' + 256, 'a' + 65536, HIGH});
    }

    private static void refused(int[] all) {
        StageRows x = new StageRows(3, 1);
        x.exchange(0, 0, 1);
        for (int u : all) {
            Check.due("unit(" + u + ")", x.unit(u), false);
        }
        reads(x, "", 0);
        Check.due("nothing came", x.length(0), 0);
    }

    @Says("or there are 100")
    static void theHundredthComes() {
        StageRows x = new StageRows(3, 1);
        reads(x, "a".repeat(99) + "(", -101);
    }

    @Says("or there are 100")
    static void theHundredAndFirstDoesNot() {
        StageRows x = new StageRows(3, 1);
        x.exchange(0, 0, 1);
        for (int i = 0; i < 99; i++) {
            Check.due("unit " + i, x.unit('a'), true);
        }
        Check.due("the hundredth", x.unit('2'), true);
        for (int i = 0; i < 3; i++) {
            Check.due("one more", x.unit('a'), false);
        }
        Check.due("a wrong one more", x.unit(256), false);
        Check.due("read", x.read(), 0);
        Check.due("99 a, the last twice", x.length(0), 0);
    }

    @Says("or there are 100")
    static void refusedBytesAreNotCounted() {
        StageRows x = new StageRows(3, 1);
        for (int i = 0; i < 10; i++) {
            Check.due("no byte", x.unit(256 + i), false);
            Check.due("no byte", x.unit(-1 - i), false);
        }
        reads(x, "a".repeat(100), 0);
    }

    @Says("or there are 100")
    static void thereIsRoomFor100AgainBehindARead() {
        StageRows x = new StageRows(3, 1);
        reads(x, "a".repeat(100), 0);
        reads(x, "a".repeat(100), 1);
    }

    @Says("or there are 100")
    static void thereIsRoomFor100AgainBehindAWrongText() {
        StageRows x = new StageRows(3, 1);
        reads(x, "g" + "a".repeat(99), -1);
        reads(x, "a".repeat(99) + "(", -101);
        reads(x, "a".repeat(100), 0);
    }

    @Says("or there are 100")
    static void thereIsRoomFor100AgainBehindTooManyRows() {
        StageRows x = new StageRows(3, 1);
        reads(x, "((((a)9)9)9)" + "a".repeat(88), -200);
        reads(x, "a".repeat(100), 0);
    }
}
