import java.util.Random;

/** Runs of calls drawn from fixed seeds, at most 512 each, against the slow twin of the class. */
public final class SlowRowsTest {
    private static final int RUNS = 500;
    private static final int CALLS = 512;

    private final String name;
    private final Random random;
    private final StageRows fast;
    private final SlowRows slow;
    private final int places;
    private final boolean movesChange;
    private final int stageBound;
    private int calls = 0;

    private SlowRowsTest(int seed) {
        name = "seed " + seed + ", call ";
        random = new Random(seed);
        places = random.nextInt(8) + 1;
        int moves = random.nextInt(8);
        movesChange = random.nextInt(3) == 0;
        stageBound = random.nextInt(3) == 0 ? 8 : 3;
        fast = new StageRows(places, moves);
        slow = new SlowRows(places, moves);
    }

    public static void main(String[] args) {
        for (int seed = 1; seed <= RUNS && Check.allRight(); seed++) {
            new SlowRowsTest(seed).go();
        }
        Check.end();
    }

    private void go() {
        int exchanges = random.nextInt(20);
        if (random.nextInt(4) == 0) {
            longOrder();
        }
        for (int i = 0; i < exchanges; i++) {
            exchange();
        }
        while (calls < CALLS) {
            step();
        }
    }

    private void step() {
        int any = random.nextInt(200);
        if (any < 20) {
            readText();
        } else if (any < 60) {
            lookAtWord();
        } else if (any < 80) {
            changePieces();
        } else if (any < 160) {
            changeStages();
        } else if (any < 180) {
            doStages();
        } else if (any < 197) {
            setUp();
        } else if (movesChange) {
            exchange();
        }
    }

    /** A move whose order, with 7 places, has two digits: too rare among those drawn. */
    private void longOrder() {
        int[] firsts = {0, 1, 3, 4, 5};
        for (int first : firsts) {
            exchange(0, first, first + 1);
        }
    }

    /** Mostly a number below a bound, now and then one that is not. */
    private int near(int bound) {
        if (random.nextInt(40) == 0) {
            int[] far = {-1, bound, bound + 1, Integer.MIN_VALUE, Integer.MAX_VALUE};
            return far[random.nextInt(far.length)];
        }
        return random.nextInt(bound);
    }

    private void same(String call, Check.Call mine, Long want) {
        // What an object answers behind its 512th call is free.
        if (calls >= CALLS) {
            return;
        }
        calls++;
        String due = want == null ? "ArrayIndexOutOfBoundsException" : want.toString();
        Check.due(name + calls + ": " + call, Check.told(mine), due);
    }

    private void exchange() {
        exchange(near(6), near(places), near(places));
    }

    private void exchange(int move, int a, int b) {
        same("exchange(" + move + ", " + a + ", " + b + ")",
            () -> fast.exchange(move, a, b) ? 1 : 0, slow.exchange(move, a, b));
        int other = near(6);
        same("order(" + other + ")", () -> fast.order(other), slow.order(other));
        same("did(0)", () -> fast.did(0), slow.did(0));
    }

    private void readText() {
        String text = partsOf(random.nextInt(3) + 1, random.nextInt(12) == 0 ? 9 : 3);
        if (random.nextInt(5) == 0) {
            text = spoilt(text);
        }
        for (int i = 0; i < text.length() && calls < CALLS; i++) {
            int u = text.charAt(i);
            same("unit(" + u + ")", () -> fast.unit(u) ? 1 : 0, slow.unit(u));
        }
        same("read() of " + text, fast::read, slow.read());
        int last = random.nextInt(30);
        same("length(" + last + ")", () -> fast.length(last), slow.length(last));
    }

    private String partsOf(int many, int deep) {
        StringBuilder all = new StringBuilder();
        for (int i = 0; i < many; i++) {
            all.append(partOf(deep));
        }
        return all.toString();
    }

    private String partOf(int deep) {
        int kind = random.nextInt(5);
        String body;
        if (deep == 0 || kind < 3) {
            body = String.valueOf((char) ('a' + random.nextInt(random.nextInt(30) == 0 ? 7 : 2)));
        } else if (kind == 3) {
            body = "(" + partsOf(random.nextInt(3), deep - 1) + ")";
        } else {
            body = "[" + partsOf(random.nextInt(3), deep - 1) + ","
                + partsOf(random.nextInt(3), deep - 1) + "]";
        }
        String digit = random.nextInt(3) == 0 ? String.valueOf(random.nextInt(8) + 2) : "";
        return body + digit + (random.nextInt(4) == 0 ? "'" : "");
    }

    /** One byte more, fewer, or another. */
    private String spoilt(String text) {
        String bytes = "abcdefg()[],'0123456789 \u00ff";
        char other = bytes.charAt(random.nextInt(bytes.length()));
        int i = random.nextInt(text.length());
        int kind = random.nextInt(3);
        String before = text.substring(0, kind == 0 ? i + 1 : i);
        return before + (kind == 1 ? "" : other) + text.substring(i + 1);
    }

    private void lookAtWord() {
        int word = near(random.nextInt(3) == 0 ? 30 : 6);
        int k = near(6);
        int place = near(places);
        same("length(" + word + ")", () -> fast.length(word), slow.length(word));
        same("row(" + word + ", " + k + ")", () -> fast.row(word, k), slow.row(word, k));
        same("image(" + word + ", " + place + ")", () -> fast.image(word, place), slow.image(word, place));
        int i = near(12);
        same("text(" + word + ", " + i + ")", () -> fast.text(word, i), slow.text(word, i));
    }

    private void changePieces() {
        int word = near(6);
        int a = near(places);
        int b = near(places);
        if (random.nextInt(3) == 0) {
            same("swap(" + a + ", " + b + ")", () -> fast.swap(a, b) ? 1 : 0, slow.swap(a, b));
        } else {
            same("act(" + word + ")", () -> {
                fast.act(word);
                return 0;
            }, slow.act(word));
        }
        same("at(" + a + ")", () -> fast.at(a), slow.at(a));
    }

    private void changeStages() {
        int stage = near(random.nextInt(stageBound) + 1);
        if (random.nextInt(8) == 0) {
            same("stage()", fast::stage, slow.stage());
        } else if (random.nextInt(3) == 0) {
            int piece = near(places);
            boolean on = random.nextInt(3) > 0;
            same("goal(" + stage + ", " + piece + ", " + on + ")",
                () -> fast.goal(stage, piece, on) ? 1 : 0, slow.goal(stage, piece, on));
        } else {
            int word = near(12);
            same("use(" + stage + ", " + word + ")",
                () -> fast.use(stage, word) ? 1 : 0, slow.use(stage, word));
        }
    }

    private void doStages() {
        int stage = near(random.nextInt(stageBound) + 1);
        if (random.nextInt(3) == 0) {
            same("states(" + stage + ")", () -> fast.states(stage), slow.states(stage));
            same("fails(" + stage + ")", () -> fast.fails(stage), slow.fails(stage));
        } else {
            same("run(" + stage + ")", () -> fast.run(stage), slow.run(stage));
        }
        for (int k = -1; k < 8; k++) {
            int which = k;
            same("did(" + k + ")", () -> fast.did(which), slow.did(k));
        }
        for (int place = 0; place < places; place++) {
            int which = place;
            same("at(" + place + ")", () -> fast.at(which), slow.at(place));
        }
    }

    private void setUp() {
        int pieces = triple();
        int goals = triple();
        int deep = near(10);
        same("setUp(" + pieces + ", " + goals + ", " + deep + ")",
            () -> fast.setUp(pieces, goals, deep), slow.setUp(pieces, goals, deep));
    }

    /** Three digits, mostly of places, and unlike ones if there can be. */
    private int triple() {
        if (random.nextInt(20) == 0) {
            return near(1024);
        }
        int a = random.nextInt(places);
        int b = (a + 1 + random.nextInt(Math.max(1, places - 1))) % places;
        int c = random.nextInt(places);
        for (int i = 0; i < 20 && (c == a || c == b); i++) {
            c = random.nextInt(places);
        }
        return a + 8 * b + 64 * c;
    }
}
