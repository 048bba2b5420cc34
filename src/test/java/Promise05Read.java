/** Boundary cases of promise 5: read, with what "Terms" says of texts and words. */
final class Promise05Read extends Puzzles {
    private static final String OPENING = "([";
    private static final String DIGITS = "23456789";

    /** Of all 256 bytes just those told may be behind a text; a, b, c are the letters. */
    private static void mayFollow(String before, String may) {
        for (int u = 0; u < 256; u++) {
            StageRows x = new StageRows(3, 3);
            int answer = read(x, before + (char) u);
            boolean refused = answer == -1 - before.length();
            Check.due(u + " refused behind " + before, refused, may.indexOf(u) < 0);
        }
    }

    /** Four moves: a has order 7, b 3, c 2, d 1. */
    private static StageRows rings() {
        StageRows x = new StageRows(7, 4);
        cycle(x, 0, 0, 1, 2, 3, 4, 5, 6);
        cycle(x, 1, 0, 1, 2);
        cycle(x, 2, 0, 1);
        return x;
    }

    private static void becomeOf(String... textsAndWords) {
        for (int i = 0; i + 1 < textsAndWords.length; i += 2) {
            becomes(rings(), textsAndWords[i], textsAndWords[i + 1]);
        }
    }

    // The answer: a number, and the text is gone.

    @Says("its number")
    static void numbersFromTheFirstToTheThirtieth() {
        StageRows x = rings();
        fillWords(x, 0, "ab");
        Check.due("the first", plain(x, 0), "ab");
        Check.due("the last", plain(x, 29), "ab");
    }

    @Says("PART, any number of them")
    static void anEmptyTextIsAWordWithoutRows() {
        StageRows x = rings();
        reads(x, "", 0);
        Check.due("length", x.length(0), 0);
        reads(x, "", 1);
    }

    @Says("\"(\" PART, any number, \")\"")
    static void emptyBracketsAreRight() {
        becomeOf("()", "", "()9'", "", "(()())", "", "a()a", "a2", "a(())'b", "ab");
    }

    @Says("\"[\" PART any number \",\" PART any number \"]\"")
    static void emptySquareBracketsAreRight() {
        becomeOf("[,]", "", "[,]9'", "", "[a,]", "", "[,a]", "", "a[,]a", "a2", "[[,],[,]]", "", "[(),()]", "");
    }

    @Says("The text is read as a word (and is gone)")
    static void aRightTextIsGone() {
        StageRows x = rings();
        reads(x, "ab", 0);
        reads(x, "c", 1);
        Check.due("only the new text", plain(x, 1), "c");
    }

    @Says("The text is read as a word (and is gone)")
    static void aWrongTextIsGone() {
        StageRows x = rings();
        reads(x, "a)", -2);
        reads(x, "c", 0);
        Check.due("only the new text", plain(x, 0), "c");
        reads(x, "b(", -3);
        reads(x, "c", 1);
        Check.due("only the new text", plain(x, 1), "c");
        reads(x, "[[[[[[[[[", -9);
        reads(x, "(c)", 2);
    }

    @Says("The text is read as a word (and is gone)")
    static void aTextThatIsTooMuchIsGone() {
        StageRows x = rings();
        reads(x, "((((ab)9)9)9)", -200);
        reads(x, "c", 0);
        Check.due("only the new text", plain(x, 0), "c");
    }

    @Says("The text is read as a word (and is gone)")
    static void aTextWithoutRoomForAWordIsGone() {
        StageRows x = rings();
        fillWords(x, 0, "");
        reads(x, "(", -2);
        reads(x, "ab", -200);
        reads(x, "c)", -2);
    }

    // Bytes that can't be there.

    @Says("-1 less the place of the first byte that can't be there")
    static void theFirstByteIsAtPlace0() {
        mayFollow("", "abc" + OPENING);
    }

    @Says("-1 less the place of the first byte that can't be there")
    static void theLastByteIsAtPlace99() {
        reads(rings(), "a".repeat(99) + ")", -100);
    }

    @Says("-1 less the place of the first byte that can't be there")
    static void theFirstOfTwoWrongBytes() {
        reads(rings(), "ab)g", -3);
        reads(rings(), "abg)", -3);
        reads(rings(), "))", -1);
        reads(rings(), "(a]]", -3);
    }

    @Says("-1 less the place of the first byte that can't be there")
    static void aWrongTextBecomesNoWord() {
        StageRows x = rings();
        reads(x, "a)", -2);
        reads(x, "(a", -3);
        Check.noSuch("length(0)", () -> x.length(0));
        reads(x, "a", 0);
        reads(x, "a0", -2);
        Check.noSuch("length(1)", () -> x.length(1));
        Check.due("word 0", plain(x, 0), "a");
    }

    @Says("a letter a to f of a move")
    static void lettersOfMovesThatAreThereAndNoOthers() {
        for (int moves = 1; moves <= 6; moves++) {
            String letters = "abcdef".substring(0, moves);
            reads(new StageRows(3, moves), letters, 0);
            reads(new StageRows(3, moves), letters + (char) ('a' + moves), -1 - moves);
            reads(new StageRows(3, moves), letters + (char) ('a' - 1), -1 - moves);
            reads(new StageRows(3, moves), letters + 'A', -1 - moves);
        }
    }

    @Says("Each may have \"'\" behind it (turned round), or a digit 2 .. 9 (as often), or a digit and then \"'\"")
    static void behindALetter() {
        mayFollow("a", "abc" + OPENING + DIGITS + "'");
        mayFollow("a2", "abc" + OPENING + "'");
        mayFollow("a9", "abc" + OPENING + "'");
        mayFollow("a'", "abc" + OPENING);
        mayFollow("a2'", "abc" + OPENING);
    }

    @Says("Each may have \"'\" behind it (turned round), or a digit 2 .. 9 (as often), or a digit and then \"'\"")
    static void behindABracket() {
        for (String part : new String[] {"()", "(a)", "[,]", "[a,b]", "(a2')", "a(b)"}) {
            mayFollow(part, "abc" + OPENING + DIGITS + "'");
            mayFollow(part + "2", "abc" + OPENING + "'");
            mayFollow(part + "'", "abc" + OPENING);
            mayFollow(part + "9'", "abc" + OPENING);
        }
    }

    @Says("\"(\" PART, any number, \")\"")
    static void withinRoundBrackets() {
        mayFollow("(", "abc)" + OPENING);
        mayFollow("a(", "abc)" + OPENING);
        mayFollow("a2'(", "abc)" + OPENING);
        mayFollow("(a", "abc)'" + OPENING + DIGITS);
        mayFollow("(a2", "abc)'" + OPENING);
        mayFollow("(a'", "abc)" + OPENING);
        mayFollow("((a)", "abc)'" + OPENING + DIGITS);
    }

    @Says("\"[\" PART any number \",\" PART any number \"]\"")
    static void withinSquareBrackets() {
        mayFollow("[", "abc," + OPENING);
        mayFollow("b[", "abc," + OPENING);
        mayFollow("[a", "abc,'" + OPENING + DIGITS);
        mayFollow("[a'", "abc," + OPENING);
        mayFollow("[,", "abc]" + OPENING);
        mayFollow("[a,", "abc]" + OPENING);
        mayFollow("[a2,", "abc]" + OPENING);
        mayFollow("[a,b", "abc]'" + OPENING + DIGITS);
        mayFollow("[a,b2", "abc]'" + OPENING);
        mayFollow("[a,b2'", "abc]" + OPENING);
    }

    @Says("\"[\" PART any number \",\" PART any number \"]\"")
    static void theInnermostBracketIsTheOneThatEnds() {
        mayFollow("[(", "abc)" + OPENING);
        mayFollow("[a,(", "abc)" + OPENING);
        mayFollow("([", "abc," + OPENING);
        mayFollow("([a,", "abc]" + OPENING);
        mayFollow("[()", "abc,'" + OPENING + DIGITS);
        mayFollow("[a,()", "abc]'" + OPENING + DIGITS);
        mayFollow("([a,b]", "abc)'" + OPENING + DIGITS);
        mayFollow("[[a,b]", "abc,'" + OPENING + DIGITS);
        mayFollow("[[a,b],", "abc]" + OPENING);
        mayFollow("[,[a,b]", "abc]'" + OPENING + DIGITS);
    }

    @Says("how many there are, when it ends too soon")
    static void eachBracketThatIsLeftOpen() {
        String[] texts = {
            "(", "[", "[,", "(a", "[a", "[a,", "[a,b", "a(", "(()", "([,]", "[(a)", "[a,(b)2'", "((a)", "(a2", "(a'",
        };
        for (String text : texts) {
            reads(rings(), text, -1 - text.length());
        }
    }

    @Says("how many there are, when it ends too soon")
    static void aTextOf100BytesThatEndsTooSoon() {
        reads(rings(), "(" + "a".repeat(99), -101);
        reads(rings(), "a".repeat(97) + "[a,", -101);
    }

    @Says("Brackets stand within one another 8 deep at most")
    static void eightDeepIsRight() {
        becomes(rings(), "(".repeat(8) + "a" + ")".repeat(8), "a");
        becomes(rings(), "[".repeat(8) + "a" + ",]".repeat(8), "");
        becomes(rings(), "[,".repeat(8) + "a" + "]".repeat(8), "");
        becomes(rings(), "([,".repeat(4) + "a" + "])".repeat(4), "");
    }

    @Says("Brackets stand within one another 8 deep at most")
    static void theNinthCannotBeThere() {
        mayFollow("(".repeat(8), "abc)");
        mayFollow("(".repeat(8) + "a", "abc)'" + DIGITS);
        mayFollow("[".repeat(8), "abc,");
        mayFollow("[,".repeat(8), "abc]");
        mayFollow("([".repeat(4), "abc,");
        reads(rings(), "(".repeat(100), -9);
        reads(rings(), "[".repeat(9), -9);
    }

    @Says("Brackets stand within one another 8 deep at most")
    static void onlyThoseThatAreOpenCount() {
        reads(rings(), "()".repeat(20), 0);
        reads(rings(), "[,]".repeat(20), 0);
        reads(rings(), "(".repeat(7) + "()()" + "[,]" + ")".repeat(7), 0);
        mayFollow("(".repeat(8) + ")", "abc)'" + OPENING + DIGITS);
        mayFollow("(".repeat(8) + ")(", "abc)");
    }

    // What the text comes to.

    @Says("or a digit 2 .. 9 (as often)")
    static void theLeastAndTheGreatestDigit() {
        becomeOf("a2", "a2", "a9", "a2", "(ab)2", "abab", "(a)9", "a2", "(ad)9", "a2");
        StageRows x = rings();
        reads(x, "(ab)9", 0);
        Check.due("nine times two rows", x.length(0), 18);
    }

    @Says("Turned round: the rows of it from the last one on, each the other way")
    static void turnedRound() {
        becomeOf("a'", "a6", "b'", "b2", "c'", "c", "a6'", "a", "a2'", "a5", "(ab)'", "b2a6", "(abc)'", "cb2a6",
            "(a2b)2'", "b2a5b2a5", "(a')'", "a", "((ab)')'", "ab", "()'", "", "[a,b]'", "bab2a6");
    }

    @Says("U, V, then U turned round, then V turned round")
    static void squareBracketsWithNothingOnOneSide() {
        becomeOf("[a,b]", "aba6b2", "[ab,]", "", "[,ab]", "", "[ab,c]", "abcb2a6c", "[a,bc]", "abca6cb2");
    }

    @Says("put together, by its order")
    static void asOftenAsTheOrderIsNothing() {
        becomeOf("a7", "", "a3a4", "", "b3", "", "b2b", "", "cc", "", "c2", "", "(a)7", "", "aa'", "", "a'a", "");
    }

    @Says("put together, by its order")
    static void oneLessAndOneMoreThanTheOrder() {
        becomeOf("a6", "a6", "a8", "a", "b2", "b2", "b4", "b", "c", "c", "c3", "c", "a6a6", "a5", "b2b2", "b", "a9a9", "a4");
        becomes(twelves(), "a9a2", "a11");
        becomes(twelves(), "a9a3", "");
        becomes(twelves(), "a9a4", "a");
        becomes(twelves(), "a'a'", "a10");
    }

    @Says("no two side by side with the same letter")
    static void theSameLetterFromBothSidesOfABracket() {
        becomeOf("a(a)a", "a3", "(ab)(ba)", "ab2a", "(a(b))(b)", "ab2", "[ab,b]", "aba6b2", "(aba)2", "aba2ba", "a'a'", "a5");
    }

    @Says("what comes to nothing goes, and what stands around it is side by side then")
    static void whatStandsAroundIsPutTogether() {
        becomeOf("ab3a", "a2", "abb'a", "a2", "abccb'a", "a2", "abccb'a'", "", "ca3a4c", "", "cba3a4bc", "cb2c",
            "cba3a4b2c", "", "bca7cb2c", "c", "(abc)(abc)'", "", "ab(b'a')", "");
    }

    @Says("(Moves with order 1 are in no words.)")
    static void movesThatLeaveAllAreInNoWord() {
        becomeOf("d", "", "d9", "", "d'", "", "d2'", "", "ada", "a2", "cdc", "", "(d)9", "", "[a,d]", "", "d5a", "a");
    }

    @Says("each with a number of times 1 .. its move's order less 1")
    static void timesAreFrom1ToTheOrderLess1() {
        for (int times = 2; times <= 9; times++) {
            String due = times % 7 == 0 ? "" : times % 7 == 1 ? "a" : "a" + times % 7;
            becomes(rings(), "a" + times, due);
        }
    }

    // Too much.

    @Says("-200 when there are 30 words")
    static void theThirtiethIsReadTheNextIsNot() {
        StageRows x = rings();
        fillWords(x, 0, "a");
        reads(x, "a", -200);
        reads(x, "", -200);
        reads(x, "d", -200);
        Check.due("the last word", plain(x, 29), "a");
        Check.noSuch("length(30)", () -> x.length(30));
    }

    @Says("-200 when there are 30 words")
    static void wordsOfSetUpsCountToo() {
        StageRows x = rings();
        fillWords(x, 1 + x.setUp(0_210, 0_321, 1), "a");
        reads(x, "a", -200);
    }

    @Says("it would have more than 40 rows when shortened")
    static void fortyRowsAreReadOneMoreIsNot() {
        StageRows x = neighbours();
        reads(x, "((ab)5)4", 0);
        Check.due("forty", x.length(0), 40);
        reads(x, "((ab)5)4a", -200);
        reads(x, "b((ab)5)4", -200);
        reads(x, "((abcde)2)4c", -200);
        Check.noSuch("no word more", () -> x.length(1));
        reads(x, "((abcde)2)4", 1);
        Check.due("forty", x.length(1), 40);
    }

    @Says("it would have more than 40 rows when shortened")
    static void moreThan40BeforeItIsShortened() {
        StageRows x = neighbours();
        reads(x, "((ab)5)4bb", 0);
        Check.due("42 and then 40", x.length(0), 40);
        reads(x, "a((ab)5)4a", 1);
        Check.due("42 and then 40", x.length(1), 40);
        reads(x, "((ab)9)9((ba)9)9", 2);
        Check.due("324 and then none", x.length(2), 0);
        reads(x, "((ab)5)4bbc", -200);
        reads(x, "((ab)9)9((ba)8)9ab", 3);
        Check.due("308 and then 20", x.length(3), 20);
    }

    @Says("more than 400 ROWS come in all")
    static void fourHundredRowsAreReadOneMoreIsNot() {
        reads(neighbours(), "(((aa)5)5)8", 0);
        reads(neighbours(), "(((aa)5)5)8a", -200);
        reads(neighbours(), "a(((aa)5)5)8", -200);
        reads(neighbours(), "(((aa)5)5)7" + "a".repeat(50), 0);
        reads(neighbours(), "(((aa)5)5)7" + "a".repeat(51), -200);
        reads(neighbours(), "a(((aa)5)5)7" + "a".repeat(49), 0);
        reads(neighbours(), "((((((aa)2)2)2)5)5)", 0);
        reads(neighbours(), "((((((aa)2)2)2)5)5a)", -200);
    }

    @Says("one for each letter (with its digit or not)")
    static void aLetterWithItsDigitIsOneRow() {
        reads(neighbours(), "(((a9a9')5)5)8", 0);
        reads(neighbours(), "(((a9a9')5)5)8a", -200);
        reads(neighbours(), "(((aa)5)5)7" + "a9".repeat(44), 0);
        reads(neighbours(), "(((a)9)9)5", -200);
        reads(neighbours(), "(((a9)9)9)4", 0);
    }

    @Says("all of them as often as what they stand in is done")
    static void squareBracketsDoEachOfTheirsTwice() {
        reads(neighbours(), "[((aa)5)5,((aa)5)5]2", 0);
        reads(neighbours(), "[((aa)5)5,((aa)5)5]2a", -200);
        reads(neighbours(), "[(((aa)5)5)4,]", 0);
        reads(neighbours(), "[(((aa)5)5)4,a]", -200);
        reads(neighbours(), "[,(((aa)5)5)4]", 0);
        reads(neighbours(), "[a,(((aa)5)5)4]", -200);
        reads(neighbours(), "[[((aa)5)5,],(((aa)5)5)2]", 0);
        reads(neighbours(), "[[((aa)5)5,],(((aa)5)5)2a]", -200);
    }

    @Says("more than 400 ROWS come in all")
    static void rowsThatComeToNothingCount() {
        reads(rings(), "(((dd)5)5)8", 0);
        reads(rings(), "(((dd)5)5)8d", -200);
        reads(rings(), "(((a7c2)5)5)8", 0);
        reads(rings(), "(((a7c2)5)5)8c2", -200);
    }

    @Says("more than 400 ROWS come in all")
    static void whatHasNoRowsDoesNotCount() {
        reads(neighbours(), "(((aa)5)5)8(((()9)9)9)9[,]9", 0);
        reads(neighbours(), "(((((((()9)9)9)9)9)9)9)9", 0);
        reads(neighbours(), "(((aa)5)5)8'", 0);
    }

    @Says("more than 400 ROWS come in all")
    static void farMoreThanAnIntHolds() {
        // 16 times 16 .. eight times is 2 to the 32: nothing, for one who counts in an int.
        reads(neighbours(), "[[[[[[[[a,]8,]8,]8,]8,]8,]8,]8,]8", -200);
        reads(neighbours(), "[[[[[[[[a,]9,]9,]9,]9,]9,]9,]9,]9", -200);
        reads(neighbours(), "((((((((a)9)9)9)9)9)9)9)9", -200);
        reads(neighbours(), "((((((((a)9)9)9)9)9)9)9)9'[((((((((b)9)9)9)9)9)9)9,((((((((c)9)9)9)9)9)9)9]", -35);
        reads(neighbours(), "((((((((a)9)9)9)9)9)9)9)9'[(((((((b)9)9)9)9)9)9)9,(((((((c)9)9)9)9)9)9)9]9", -200);
    }

    @Says("and the text is right")
    static void aWrongTextIsToldBefore30Words() {
        StageRows x = rings();
        fillWords(x, 0, "");
        reads(x, "ag", -2);
        reads(x, "g", -1);
        reads(x, "a(", -3);
        reads(x, "[", -2);
        reads(x, "ab", -200);
    }

    @Says("and the text is right")
    static void aWrongTextIsToldBeforeMoreThan40Rows() {
        StageRows x = neighbours();
        reads(x, "((ab)5)4ag", -10);
        reads(x, "((ab)5)4a(", -11);
        reads(x, "(((ab)5)4a", -11);
    }

    @Says("and the text is right")
    static void aWrongTextIsToldBeforeMoreThan400Rows() {
        StageRows x = neighbours();
        reads(x, "((((a)9)9)9)9)", -14);
        reads(x, "((((a)9)9)9)9(", -15);
        reads(x, "((((a)9)9)9)9''", -15);
        reads(x, "((((a)9)9)9)91", -14);
        reads(x, "((((a)9)9)9)9a1", -15);
        reads(x, "[((((a)9)9)9)9,((((a)9)9)9)9,", -29);
    }

    @Says("-200 when there are 30 words, it would have more than 40 rows when shortened, or more than 400 ROWS come in all")
    static void aTextThatIsTooMuchBecomesNoWord() {
        StageRows x = neighbours();
        reads(x, "abc", 0);
        reads(x, "((ab)5)4a", -200);
        reads(x, "(((aa)5)5)8a", -200);
        Check.noSuch("length(1)", () -> x.length(1));
        Check.due("word 0", plain(x, 0), "abc");
        reads(x, "ab", 1);
        Check.due("word 1", plain(x, 1), "ab");
    }
}
