/** Each promise by itself: ordinary inputs, the edges that the document names, wrong inputs. */
public final class PromisesTest extends Puzzles {
    public static void main(String[] args) {
        newObject();
        exchange();
        exchangeForgets();
        order();
        unit();
        readPlaces();
        readLimits();
        readMeaning();
        lengthAndRow();
        image();
        act();
        swapAndAt();
        stage();
        goal();
        use();
        run();
        did();
        didWordsThatAreGone();
        states();
        fails();
        setUpWrong();
        setUpFound();
        text();
        Check.end();
    }

    private static void newObject() {
        sized(5, 3, 5, 3);
        sized(2, 1, 2, 1);
        sized(7, 6, 7, 6);
        sized(1, 0, 2, 1);
        sized(8, 7, 7, 6);
        sized(LOW, LOW, 2, 1);
        sized(HIGH, HIGH, 7, 6);
        sized(LOW, HIGH, 2, 6);
        StageRows x = new StageRows(4, 2);
        Check.noSuch("a new object's word 0", () -> x.length(0));
        Check.noSuch("a new object's stage 0", () -> x.run(0));
        Check.due("a new object's did(0)", x.did(0), -1);
        Check.due("a new object's text is empty", x.read(), 0);
        Check.due("a new object's first word", x.length(0), 0);
        StageRows other = new StageRows(4, 2);
        Check.noSuch("another object's word 0", () -> other.length(0));
    }

    private static void sized(int places, int moves, int realPlaces, int realMoves) {
        StageRows x = new StageRows(places, moves);
        String name = "StageRows(" + places + ", " + moves + ")";
        for (int place = 0; place < realPlaces; place++) {
            Check.due(name + " at", x.at(place), place);
        }
        Check.noSuch(name + " places", () -> x.at(realPlaces));
        for (int move = 0; move < realMoves; move++) {
            Check.due(name + " order", x.order(move), 1);
        }
        Check.noSuch(name + " moves", () -> x.order(realMoves));
        x.stage();
        Check.due(name + " states", x.states(0), 1);
    }

    private static void exchange() {
        StageRows x = new StageRows(3, 2);
        Check.due("exchange(0, 0, 2)", x.exchange(0, 0, 2), true);
        Check.due("exchange(0, 1, 1)", x.exchange(0, 1, 1), false);
        reads(x, "a", 0);
        reads(x, "b", 1);
        Check.due("image of 0", x.image(0, 0), 2);
        Check.due("image of 1", x.image(0, 1), 1);
        Check.due("image of 2", x.image(0, 2), 0);
        Check.due("the other move's", x.image(1, 0), 0);
        // The goals of the two places, not the places that have them as goals.
        Check.due("exchange(0, 0, 1)", x.exchange(0, 0, 1), true);
        reads(x, "a", 0);
        Check.due("image of 0", x.image(0, 0), 1);
        Check.due("image of 1", x.image(0, 1), 2);
        Check.due("image of 2", x.image(0, 2), 0);
        for (int wrong : new int[] {-1, 3, LOW, HIGH}) {
            Check.noSuch("exchange(0, 0, " + wrong + ")", () -> x.exchange(0, 0, wrong) ? 1 : 0);
            Check.noSuch("exchange(0, .., 0)", () -> x.exchange(0, wrong, 0) ? 1 : 0);
            Check.noSuch("exchange of one wrong place", () -> x.exchange(0, wrong, wrong) ? 1 : 0);
        }
        for (int wrong : new int[] {-1, 2, LOW, HIGH}) {
            Check.noSuch("exchange(" + wrong + ", 0, 1)", () -> x.exchange(wrong, 0, 1) ? 1 : 0);
            Check.noSuch("exchange in no move of one", () -> x.exchange(wrong, 1, 1) ? 1 : 0);
        }
        Check.due("a wrong exchange leaves the words", x.length(0), 1);
    }

    private static void exchangeForgets() {
        StageRows x = twoThrees();
        reads(x, "ab", 0);
        x.stage();
        x.goal(0, 2, true);
        x.use(0, 0);
        x.act(0);
        Check.due("exchange of one", x.exchange(1, 3, 3), false);
        Check.due("it leaves the words", x.length(0), 2);
        Check.due("it leaves the stages", x.goal(0, 2, true), false);
        x.unit('b');
        Check.due("exchange", x.exchange(1, 0, 1), true);
        Check.noSuch("words are gone", () -> x.length(0));
        Check.noSuch("stages are gone", () -> x.run(0));
        Check.due("pieces stay", pieces(x, 5), "20413");
        Check.due("the text stays", x.read(), 0);
        Check.due("the text was b", plain(x, 0), "b");
        Check.due("stages begin anew", x.stage(), 0);
        Check.due("without goal", x.goal(0, 2, true), true);
        Check.due("without words, it fails", x.run(0), -1);
        for (int i = 0; i < 12; i++) {
            Check.due("without words", x.use(0, 0), true);
        }
    }

    private static void order() {
        StageRows x = new StageRows(7, 2);
        int[] due = {2, 3, 4, 5, 6, 7};
        for (int i = 0; i < 6; i++) {
            x.exchange(0, i, i + 1);
            Check.due("order of a cycle", x.order(0), due[i]);
        }
        Check.due("the other's order", x.order(1), 1);
        StageRows y = new StageRows(7, 4);
        cycle(y, 0, 0, 1, 2);
        cycle(y, 0, 3, 4, 5, 6);
        cycle(y, 1, 0, 1);
        cycle(y, 1, 2, 3, 4, 5, 6);
        cycle(y, 2, 0, 1);
        cycle(y, 2, 2, 3);
        cycle(y, 2, 4, 5, 6);
        cycle(y, 3, 0, 6);
        cycle(y, 3, 0, 6);
        Check.due("order of 3 and 4", y.order(0), 12);
        Check.due("order of 2 and 5", y.order(1), 10);
        Check.due("order of 2, 2 and 3", y.order(2), 6);
        Check.due("order of a move undone", y.order(3), 1);
        for (int wrong : new int[] {-1, 4, 6, LOW, HIGH}) {
            Check.noSuch("order(" + wrong + ")", () -> y.order(wrong));
        }
    }

    private static void unit() {
        StageRows x = new StageRows(3, 1);
        Check.due("unit(-1)", x.unit(-1), false);
        Check.due("unit(256)", x.unit(256), false);
        Check.due("unit low", x.unit(LOW), false);
        Check.due("unit high", x.unit(HIGH), false);
        Check.due("nothing came", x.read(), 0);
        Check.due("unit(0)", x.unit(0), true);
        Check.due("unit(255)", x.unit(255), true);
        Check.due("read of 0", x.read(), -1);
        for (int i = 0; i < 100; i++) {
            Check.due("unit " + i, x.unit('a'), true);
        }
        Check.due("unit 100", x.unit('('), false);
        Check.due("the byte behind 100 did not come", x.read(), 1);
        Check.due("unit anew", x.unit('a'), true);
    }

    private static void readPlaces() {
        StageRows x = twoThrees();
        String[] texts = {
            "c", "A", " a", "a b", "ab2c", "2", "'", "a1", "a0", "a22", "a''", "a'2", "a2''", "a2'3",
            "(2a)", "('", ")", "a)", "(a))", "]", ",", "a,b", "(a,b)", "[a]", "[a,b,a]", "[a,b)",
            "a(2)", "a('", "a[2,]", "a2['", "(a]", "[a)", "[2,a]", "[a,'b]", "[(a,b)]", "[a,b]2'2", "()''", "-", "a\u00ff",
        };
        int[] places = {
            0, 0, 0, 1, 3, 0, 0, 1, 1, 2, 2, 2, 3, 3,
            1, 1, 0, 1, 3, 0, 0, 1, 2, 2, 4, 4,
            2, 2, 2, 3, 2, 2, 1, 3, 3, 7, 3, 0, 1,
        };
        for (int i = 0; i < texts.length; i++) {
            reads(x, texts[i], -1 - places[i]);
        }
        for (String early : new String[] {"(", "[", "(a", "[a", "[a,", "[a,b", "([a,b]", "[a,(b2'"}) {
            reads(x, early, -1 - early.length());
        }
        reads(x, "(".repeat(8), -9);
        reads(x, "[".repeat(8) + "(", -9);
        reads(x, "([".repeat(4) + "a(", -10);
        reads(x, "a".repeat(99) + "(", -101);
        Check.noSuch("a wrong text is no word", () -> x.length(0));
        reads(x, "", 0);
        reads(x, "()", 1);
        reads(x, "[,]", 2);
        reads(x, "[,]3'()'", 3);
        reads(x, "(".repeat(8) + ")".repeat(8), 4);
        reads(x, "[".repeat(8) + ",]".repeat(8), 5);
        reads(x, "((a)(b))", 6);
    }

    private static void readLimits() {
        StageRows x = neighbours();
        reads(x, "(abcdef)6abcd", 0);
        Check.due("a word of 40", x.length(0), 40);
        reads(x, "(abcdef)6abcde", -200);
        reads(x, "(abcdef)6abcde)", -15);
        // More than 40 on the way, and no more than that in the end.
        reads(x, "((abcdef)9)((abcdef)9)'", 1);
        Check.due("all of it undone", x.length(1), 0);
        reads(x, "(((ab)5)5)8'", -200);
        // 400 rows in all, and 401, both of which come to nothing.
        reads(x, "(((aa)5)5)8", 2);
        Check.due("400 rows to nothing", x.length(2), 0);
        reads(x, "(((aa)5)5)8()9", 3);
        reads(x, "(((aa)5)5)8a", -200);
        reads(x, "a(((aa)5)5)8", -200);
        reads(x, "(((a2)4)5)5)4", -12);
        reads(x, "((((a2)4)5)5)4", 4);
        reads(x, "((((a2)4)5)5)4a", -200);
        // A letter with its digit is one row, a bracket's content one for each time.
        reads(x, "((((a9)5)8)5)2", 5);
        reads(x, "[[(a)5,(b)5]9,]", 6);
        reads(x, "[(a)5,[,(a)5]9]", 7);
        reads(x, "[[(((((a)9)9)9)9)9,]9,b]9'", -200);
        reads(x, "[[(((((a)9)9)9)9)9,]9,b]9'x", -27);
        for (int word = 8; word < 30; word++) {
            reads(x, "a", word);
        }
        reads(x, "a", -200);
        reads(x, "", -200);
        reads(x, "a(", -3);
        reads(x, "g", -1);
        Check.due("the last word", x.length(29), 1);
        Check.noSuch("no word 30", () -> x.length(30));
    }

    private static void readMeaning() {
        StageRows x = new StageRows(7, 4);
        cycle(x, 0, 0, 1, 2, 3, 4, 5, 6);
        cycle(x, 1, 0, 1, 2);
        cycle(x, 2, 0, 1);
        String[][] all = {
            {"abc", "abc"}, {"a'", "a6"}, {"a2'", "a5"}, {"a7", ""}, {"a8", "a"}, {"a9'", "a5"},
            {"b'", "b2"}, {"c'", "c"}, {"c2", ""}, {"(ab)'", "b2a6"}, {"(ab2)2'", "ba6ba6"},
            {"[a,b]", "aba6b2"}, {"[a,b]'", "bab2a6"}, {"[ab,c]", "abcb2a6c"}, {"[,b]", ""},
            {"[a,]", ""}, {"[a,b]2", "aba6b2aba6b2"}, {"a3a2", "a5"}, {"a3a4", ""}, {"ba3a4b", "b2"},
            {"bca3a4cb", "b2"}, {"bca3a4cb2c", "c"}, {"d", ""}, {"ada", "a2"}, {"d5'", ""},
            {"(abc)(abc)'", ""}, {"ab3a", "a2"}, {"(a(bc)2)'", "cb2cb2a6"},
        };
        for (int i = 0; i < all.length; i++) {
            becomes(x, all[i][0], all[i][1]);
        }
    }

    private static void lengthAndRow() {
        StageRows x = new StageRows(7, 6);
        cycle(x, 5, 0, 1, 2);
        cycle(x, 5, 3, 4, 5, 6);
        cycle(x, 0, 0, 1);
        reads(x, "f'af9f2a", 0);
        reads(x, "", 1);
        Check.due("length(0)", x.length(0), 4);
        Check.due("length(1)", x.length(1), 0);
        int[] rows = {16 * 5 + 11, 1, 16 * 5 + 11, 1};
        for (int k = 0; k < 4; k++) {
            Check.due("row(0, " + k + ")", x.row(0, k), rows[k]);
        }
        for (int k : new int[] {-1, 4, 40, LOW, HIGH}) {
            Check.due("row(0, " + k + ")", x.row(0, k), -1);
            Check.due("row(1, " + k + ")", x.row(1, k), -1);
        }
        Check.due("row(1, 0)", x.row(1, 0), -1);
        for (int wrong : new int[] {-1, 2, 29, 30, LOW, HIGH}) {
            Check.noSuch("length(" + wrong + ")", () -> x.length(wrong));
            Check.noSuch("row(" + wrong + ", 0)", () -> x.row(wrong, 0));
            Check.noSuch("row(" + wrong + ", -1)", () -> x.row(wrong, -1));
        }
    }

    private static void image() {
        StageRows x = twoThrees();
        reads(x, "ab", 0);
        reads(x, "", 1);
        reads(x, "ab'a2", 2);
        int[][] due = {{1, 3, 0, 4, 2}, {0, 1, 2, 3, 4}, {0, 4, 2, 1, 3}};
        for (int word = 0; word < 3; word++) {
            for (int place = 0; place < 5; place++) {
                Check.due("image(" + word + ", " + place + ")", x.image(word, place), due[word][place]);
            }
        }
        for (int wrong : new int[] {-1, 5, 7, LOW, HIGH}) {
            Check.noSuch("image(0, " + wrong + ")", () -> x.image(0, wrong));
            Check.noSuch("image(" + wrong + ", 0)", () -> x.image(wrong, 0));
        }
    }

    private static void act() {
        StageRows x = twoThrees();
        reads(x, "ab", 0);
        x.act(0);
        Check.due("ab done", pieces(x, 5), "20413");
        x.act(0);
        Check.due("ab done twice", pieces(x, 5), "42301");
        for (int wrong : new int[] {-1, 1, LOW, HIGH}) {
            Check.noSuch("act(" + wrong + ")", () -> {
                x.act(wrong);
                return 0;
            });
        }
        Check.due("a wrong one does nothing", pieces(x, 5), "42301");
    }

    private static void swapAndAt() {
        StageRows x = new StageRows(4, 1);
        Check.due("swap(0, 3)", x.swap(0, 3), true);
        Check.due("swap(3, 1)", x.swap(3, 1), true);
        Check.due("pieces", pieces(x, 4), "3021");
        Check.due("swap(2, 2)", x.swap(2, 2), false);
        Check.due("pieces", pieces(x, 4), "3021");
        for (int wrong : new int[] {-1, 4, LOW, HIGH}) {
            Check.noSuch("swap(" + wrong + ", 0)", () -> x.swap(wrong, 0) ? 1 : 0);
            Check.noSuch("swap(0, " + wrong + ")", () -> x.swap(0, wrong) ? 1 : 0);
            Check.noSuch("swap of one wrong place", () -> x.swap(wrong, wrong) ? 1 : 0);
            Check.noSuch("at(" + wrong + ")", () -> x.at(wrong));
        }
        Check.due("pieces", pieces(x, 4), "3021");
    }

    private static void stage() {
        StageRows x = new StageRows(4, 1);
        for (int i = 0; i < 8; i++) {
            Check.due("stage()", x.stage(), i);
        }
        Check.due("stage() with 8", x.stage(), -1);
        for (int i = 0; i < 8; i++) {
            Check.due("no goal, no words", x.run(i), 0);
        }
        Check.noSuch("no stage 8", () -> x.run(8));
    }

    private static void goal() {
        StageRows x = new StageRows(4, 1);
        x.stage();
        x.stage();
        Check.due("goal off", x.goal(0, 3, false), false);
        Check.due("goal on", x.goal(0, 3, true), true);
        Check.due("goal on again", x.goal(0, 3, true), false);
        Check.due("another stage's", x.goal(1, 3, true), true);
        Check.due("another piece's", x.goal(0, 2, true), true);
        x.swap(0, 3);
        Check.due("the goal is not met", x.run(0), -1);
        Check.due("goal off", x.goal(0, 3, false), true);
        Check.due("goal off again", x.goal(0, 3, false), false);
        Check.due("the goal is met", x.run(0), 0);
        for (int wrong : new int[] {-1, 4, LOW, HIGH}) {
            Check.noSuch("goal(0, " + wrong + ")", () -> x.goal(0, wrong, true) ? 1 : 0);
            Check.noSuch("goal(0, " + wrong + ")", () -> x.goal(0, wrong, false) ? 1 : 0);
        }
        for (int wrong : new int[] {-1, 2, 8, LOW, HIGH}) {
            Check.noSuch("goal(" + wrong + ", 0)", () -> x.goal(wrong, 0, false) ? 1 : 0);
        }
    }

    private static void use() {
        StageRows x = twoThrees();
        reads(x, "a", 0);
        reads(x, "a'", 1);
        x.stage();
        x.stage();
        x.goal(0, 0, true);
        for (int i = 0; i < 11; i++) {
            Check.due("use " + i, x.use(0, 0), true);
        }
        Check.due("the twelfth", x.use(0, 1), true);
        Check.due("the thirteenth", x.use(0, 1), false);
        Check.due("another stage's", x.use(1, 1), true);
        x.act(0);
        Check.due("the twelfth word is done", x.run(0), 1);
        Check.due("the twelfth word is done", x.did(0), 1);
        for (int wrong : new int[] {-1, 2, 30, LOW, HIGH}) {
            Check.noSuch("use(0, " + wrong + ")", () -> x.use(0, wrong) ? 1 : 0);
            Check.noSuch("use(1, " + wrong + ")", () -> x.use(1, wrong) ? 1 : 0);
            Check.noSuch("use(" + wrong + ", 0)", () -> x.use(wrong, 0) ? 1 : 0);
        }
    }

    private static void run() {
        StageRows x = neighbours();
        for (int move = 0; move < 6; move++) {
            reads(x, String.valueOf((char) ('a' + move)), move);
        }
        x.stage();
        Check.due("an empty goal is met", x.run(0), 0);
        for (int piece = 0; piece < 7; piece++) {
            x.goal(0, piece, true);
        }
        x.use(0, 2);
        x.use(0, 0);
        x.use(0, 4);
        x.act(0);
        x.act(2);
        x.act(4);
        Check.due("three words", x.run(0), 3);
        Check.due("they are tried in order", x.did(0), 2);
        Check.due("they are tried in order", x.did(1), 0);
        Check.due("they are tried in order", x.did(2), 4);
        Check.due("all are at home", pieces(x, 7), "0123456");
        x.act(0);
        x.act(3);
        Check.due("one word, then it fails", x.run(0), -1);
        Check.due("what was done stays done", pieces(x, 7), "0124356");
        Check.due("what was done is told", x.did(0), 0);
        Check.due("what was done is told", x.did(1), -1);
        x.goal(0, 3, false);
        x.goal(0, 4, false);
        Check.due("what is no goal does not count", x.run(0), 0);
        for (int wrong : new int[] {-1, 1, 8, LOW, HIGH}) {
            Check.noSuch("run(" + wrong + ")", () -> x.run(wrong));
        }
        runAsManyIsNotMore();
    }

    private static void runAsManyIsNotMore() {
        StageRows x = new StageRows(3, 2);
        cycle(x, 0, 0, 1);
        cycle(x, 1, 0, 1, 2);
        reads(x, "a", 0);
        reads(x, "b", 1);
        x.stage();
        x.goal(0, 0, true);
        x.goal(0, 2, true);
        x.use(0, 0);
        x.use(0, 1);
        // 2 at place 0, 1 at place 1, 0 at place 2: neither word brings one piece more home.
        x.swap(0, 2);
        Check.due("b brings 0 home", x.run(0), -1);
        Check.due("b was done first", x.did(0), 1);
        Check.due("then none", x.did(1), -1);
        Check.due("pieces", pieces(x, 3), "021");
    }

    private static void did() {
        StageRows x = neighbours();
        Check.due("did before a run", x.did(0), -1);
        reads(x, "c", 0);
        reads(x, "a", 1);
        x.stage();
        x.stage();
        x.goal(0, 0, true);
        x.goal(0, 2, true);
        x.use(0, 0);
        x.use(0, 1);
        x.act(0);
        x.act(1);
        Check.due("run", x.run(0), 2);
        Check.due("did(0)", x.did(0), 0);
        Check.due("did(1)", x.did(1), 1);
        for (int k : new int[] {-1, 2, 6, 7, 8, LOW, HIGH}) {
            Check.due("did(" + k + ")", x.did(k), -1);
        }
        Check.due("fails", x.fails(0) > 0, true);
        Check.due("fails is no run", x.did(1), 1);
        Check.noSuch("a run of no stage", () -> x.run(2));
        Check.due("it is no run", x.did(1), 1);
        Check.due("a run that does nothing", x.run(1), 0);
        Check.due("did behind it", x.did(0), -1);
    }

    private static void didWordsThatAreGone() {
        StageRows x = neighbours();
        reads(x, "c", 0);
        reads(x, "a", 1);
        x.stage();
        x.goal(0, 0, true);
        x.goal(0, 2, true);
        x.use(0, 0);
        x.use(0, 1);
        x.act(0);
        x.act(1);
        Check.due("run", x.run(0), 2);
        Check.due("exchange of one place", x.exchange(1, 3, 3), false);
        Check.noSuch("exchange of no place", () -> x.exchange(1, 0, -1) ? 1 : 0);
        Check.due("the words stay, did(0)", x.did(0), 0);
        Check.due("the words stay, did(1)", x.did(1), 1);
        Check.due("exchange", x.exchange(1, 0, 3), true);
        Check.due("the words are gone, did(0)", x.did(0), -1);
        Check.due("the words are gone, did(1)", x.did(1), -1);
        reads(x, "a", 0);
        reads(x, "c", 1);
        Check.due("no run did the new word 0", x.did(0), -1);
        Check.due("no run did the new word 1", x.did(1), -1);
        x.stage();
        x.goal(0, 2, true);
        x.use(0, 0);
        x.use(0, 1);
        x.act(1);
        Check.due("a run of new words", x.run(0), 1);
        Check.due("it is told", x.did(0), 1);
        Check.due("nothing old behind it", x.did(1), -1);
    }

    private static void states() {
        StageRows x = twoThrees();
        x.stage();
        x.stage();
        x.stage();
        x.goal(0, 0, true);
        x.goal(1, 1, true);
        x.goal(2, 2, true);
        Check.due("all even states", x.states(0), 60);
        Check.due("with piece 0 at home", x.states(1), 12);
        Check.due("with 0 and 1 at home", x.states(2), 3);
        x.swap(0, 1);
        Check.due("from all at home, not from now", x.states(2), 3);
        Check.due("pieces", pieces(x, 5), "10234");
        for (int wrong : new int[] {-1, 3, 8, LOW, HIGH}) {
            Check.noSuch("states(" + wrong + ")", () -> x.states(wrong));
        }
        x.exchange(1, 0, 1);
        x.stage();
        Check.due("moves changed", x.states(0), 120);
        StageRows y = neighbours();
        y.stage();
        Check.due("all states of 7", y.states(0), 5040);
        StageRows z = new StageRows(2, 1);
        z.stage();
        Check.due("no move", z.states(0), 1);
        z.exchange(0, 0, 1);
        z.stage();
        Check.due("all states of 2", z.states(0), 2);
    }

    private static void fails() {
        StageRows x = new StageRows(3, 2);
        cycle(x, 0, 0, 1);
        cycle(x, 1, 1, 2);
        reads(x, "a", 0);
        reads(x, "b", 1);
        reads(x, "aba", 2);
        for (int i = 0; i < 3; i++) {
            x.stage();
        }
        Check.due("an empty goal never fails", x.fails(0), 0);
        x.goal(0, 0, true);
        Check.due("without words", x.fails(0), 4);
        x.use(0, 0);
        Check.due("a brings 0 from 1", x.fails(0), 2);
        x.use(0, 2);
        Check.due("aba brings 0 from 2", x.fails(0), 0);
        x.goal(1, 1, true);
        Check.due("states with 0 at home", x.states(1), 2);
        x.use(1, 0);
        Check.due("a does not bring 1 from 2", x.fails(1), 1);
        x.use(1, 1);
        Check.due("b does", x.fails(1), 0);
        x.goal(2, 2, true);
        Check.due("only the state at home", x.fails(2), 0);
        x.goal(1, 1, false);
        x.goal(1, 2, true);
        x.goal(0, 0, false);
        x.goal(0, 1, true);
        // With 1 at home: all at home; 0 and 2 exchanged, where neither a nor b brings 2 home.
        Check.due("two words that only together would do", x.fails(1), 1);
        for (int wrong : new int[] {-1, 3, 8, LOW, HIGH}) {
            Check.noSuch("fails(" + wrong + ")", () -> x.fails(wrong));
        }
        failsWhenAGoalBeforeIsLost();
    }

    private static void failsWhenAGoalBeforeIsLost() {
        StageRows x = new StageRows(3, 2);
        cycle(x, 0, 0, 1);
        cycle(x, 1, 1, 2);
        reads(x, "a", 0);
        reads(x, "ab", 1);
        x.stage();
        x.stage();
        x.goal(0, 0, true);
        x.goal(1, 2, true);
        x.use(1, 1);
        // With 0 at home: all at home; 1 and 2 exchanged, where ab brings 2 to place 0.
        Check.due("states", x.states(1), 2);
        Check.due("ab does not bring 2 home", x.image(1, 1), 0);
        Check.due("fails without a better word", x.fails(1), 1);
        reads(x, "ba", 2);
        x.use(1, 2);
        Check.due("ba brings 2 home", x.image(2, 1), 2);
        Check.due("ba brings 0 away", x.image(2, 0), 1);
        Check.due("0 is not at home behind it", x.fails(1), 1);
        reads(x, "b", 3);
        x.use(1, 3);
        Check.due("the first that is better is done", x.fails(1), 1);
        x.goal(0, 0, false);
        Check.due("no goal before: all states", x.states(1), 6);
        x.swap(0, 1);
        Check.due("pieces are left", pieces(x, 3), "102");
    }

    private static void setUpWrong() {
        StageRows x = twoThrees();
        int here = 0_210;
        int[] wrongTriples = {
            0, 0_011, 0_101, 0_110, 0_510, 0_150, 0_015, 0_710, 01_210, 0_1000, -1, -0_210, LOW, HIGH,
        };
        for (int wrong : wrongTriples) {
            Check.due("setUp(" + wrong + ", ..)", x.setUp(wrong, here, 3), -2);
            Check.due("setUp(.., " + wrong + ")", x.setUp(here, wrong, 3), -2);
        }
        for (int deep : new int[] {-1, 10, LOW, HIGH}) {
            Check.due("setUp deep " + deep, x.setUp(here, here, deep), -2);
        }
        Check.noSuch("none became a word", () -> x.length(0));
        StageRows two = new StageRows(2, 1);
        Check.due("two places", two.setUp(0_210, 0_210, 0), -2);
        Check.due("two places", two.setUp(0_010, 0_010, 0), -2);
    }

    private static void setUpFound() {
        StageRows x = twoThrees();
        Check.due("nothing to do", x.setUp(0_210, 0_210, 0), 0);
        Check.due("no rows", x.length(0), 0);
        Check.due("too deep", x.setUp(0_210, 0_021, 0), -1);
        Check.due("one row", x.setUp(0_210, 0_021, 1), 1);
        Check.due("a", plain(x, 1), "a");
        Check.due("the first one's digit is lowest", x.setUp(0_210, 0_102, 9), 2);
        Check.due("a the other way", plain(x, 2), "a2");
        Check.due("nothing is done yet", pieces(x, 5), "01234");
        x.act(1);
        Check.due("from where they are now", x.setUp(0_210, 0_210, 9), 3);
        Check.due("back", plain(x, 3), "a2");
        StageRows y = neighbours();
        // 0 to 3, 1 to 2, 2 to 1 is six rows; the lesser move comes first.
        Check.due("six rows", y.setUp(0_210, 0_123, 5), -1);
        Check.due("six rows", y.setUp(0_210, 0_123, 6), 0);
        Check.due("the first of those", plain(y, 0), "abacba");
        Check.due("more than nine rows", y.setUp(0_210, 0_456, 9), -1);
        StageRows far = new StageRows(7, 2);
        cycle(far, 0, 0, 1, 2, 3, 4, 5, 6);
        cycle(far, 1, 0, 1);
        Check.due("one row, often", far.setUp(0_210, 0_654, 9), 0);
        Check.due("a four times", plain(far, 0), "a4");
        Check.due("one row, as often as can be", far.setUp(0_210, 0_106, 1), 1);
        Check.due("a six times", plain(far, 1), "a6");
        StageRows z = new StageRows(4, 1);
        z.exchange(0, 0, 1);
        Check.due("it can't be", z.setUp(0_210, 0_321, 9), -1);
        for (int word = 0; word < 30; word++) {
            reads(z, "a", word);
        }
        Check.due("wrong before all", z.setUp(0_210, 0_211, 9), -2);
        Check.due("none before full", z.setUp(0_210, 0_321, 9), -1);
        Check.due("full", z.setUp(0_210, 0_201, 9), -200);
    }

    private static void text() {
        StageRows x = new StageRows(7, 6);
        cycle(x, 0, 0, 1, 2);
        cycle(x, 0, 3, 4, 5, 6);
        cycle(x, 5, 0, 1);
        becomes(x, "a9afa'fa2fa9f", "a10fa11fa2fa9f");
        becomes(x, "", "");
        Check.due("text(0, 13)", x.text(0, 13), 'f');
        for (int i : new int[] {-1, 14, 120, LOW, HIGH}) {
            Check.due("text(0, " + i + ")", x.text(0, i), -1);
        }
        Check.due("text(1, 0)", x.text(1, 0), -1);
        for (int wrong : new int[] {-1, 2, 30, LOW, HIGH}) {
            Check.noSuch("text(" + wrong + ", 0)", () -> x.text(wrong, 0));
            Check.noSuch("text(" + wrong + ", -1)", () -> x.text(wrong, -1));
        }
    }
}
