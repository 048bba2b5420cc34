import java.util.Arrays;

/**
 * Stages for turning puzzles: words of moves, read from a text, shortened and done; stages with
 * goals by pieces, each with words that are tried in order; set-ups found by shallow search.
 *
 * <p>Inside, a STATE is one number of three bits a place (the piece there, place 0 lowest), and a
 * ROW is 16 times its move and how often it is done: neither needs an object of its own.
 */
public final class StageRows {
    private static final int LEAST_PLACES = 2;
    private static final int MOST_PLACES = 7;
    private static final int MOST_MOVES = 6;
    // With 7 places no move needs more: cycles of 3 and of 4 places together.
    private static final int MOST_ORDER = 12;
    private static final int MOST_WORDS = 30;
    private static final int MOST_ROWS = 40;
    private static final int MOST_STAGES = 8;
    private static final int MOST_USES = 12;
    private static final int MOST_DEEP = 9;
    private static final int NONE = -1;
    private static final int WRONG_SET_UP = -2;
    private static final int TOO_MUCH = -200;

    private final Turns turns;
    private final Reader reader;
    private final Words words;
    private final Stages stages;
    private final Reach reach;
    private final Search search;
    private final int[] done;
    private int doneCount;
    private int state;

    public StageRows(int places, int moves) {
        int placeCount = Math.max(LEAST_PLACES, Math.min(MOST_PLACES, places));
        int moveCount = Math.max(1, Math.min(MOST_MOVES, moves));
        turns = new Turns(placeCount, moveCount);
        reader = new Reader(turns);
        words = new Words(turns);
        stages = new Stages(words);
        reach = new Reach(turns);
        search = new Search(turns);
        done = new int[MOST_PLACES];
        state = State.allHome(placeCount);
    }

    public boolean exchange(int move, int a, int b) throws ArrayIndexOutOfBoundsException {
        checkMove(move);
        checkPlace(a);
        checkPlace(b);
        if (a == b) {
            return false;
        }
        turns.exchangeGoals(move, a, b);
        words.forget();
        stages.forget();
        reach.forget();
        // The words that the latest run did are gone too, and others will bear their numbers.
        doneCount = 0;
        return true;
    }

    public int order(int move) throws ArrayIndexOutOfBoundsException {
        checkMove(move);
        return turns.orderOf(move);
    }

    public boolean unit(int u) {
        return reader.takeByte(u);
    }

    public int read() {
        int wrong = reader.readRows();
        int bytes = reader.dropText();
        if (wrong < bytes || reader.isOpen()) {
            return -1 - wrong;
        }
        if (reader.isOver() || words.isFull()) {
            return TOO_MUCH;
        }
        int rowCount = reader.shortenRows();
        return rowCount > MOST_ROWS ? TOO_MUCH : words.add(reader.readBuffer(), rowCount);
    }

    public int length(int word) throws ArrayIndexOutOfBoundsException {
        checkWord(word);
        return words.rowCountOf(word);
    }

    public int row(int word, int k) throws ArrayIndexOutOfBoundsException {
        checkWord(word);
        return words.rowOf(word, k);
    }

    public int image(int word, int place) throws ArrayIndexOutOfBoundsException {
        checkWord(word);
        checkPlace(place);
        return words.goalOf(word, place);
    }

    public void act(int word) throws ArrayIndexOutOfBoundsException {
        checkWord(word);
        state = words.turned(word, state);
    }

    public boolean swap(int a, int b) throws ArrayIndexOutOfBoundsException {
        checkPlace(a);
        checkPlace(b);
        if (a == b) {
            return false;
        }
        state = State.swapped(state, a, b);
        return true;
    }

    public int at(int place) throws ArrayIndexOutOfBoundsException {
        checkPlace(place);
        return State.pieceAt(state, place);
    }

    public int stage() {
        return stages.add();
    }

    public boolean goal(int stage, int piece, boolean on) throws ArrayIndexOutOfBoundsException {
        checkStage(stage);
        checkPlace(piece);
        return stages.setGoal(stage, piece, on);
    }

    public boolean use(int stage, int word) throws ArrayIndexOutOfBoundsException {
        checkStage(stage);
        checkWord(word);
        return stages.addUse(stage, word);
    }

    public int run(int stage) throws ArrayIndexOutOfBoundsException {
        checkStage(stage);
        doneCount = 0;
        // Each word brings one more piece home, so there are never more words than places.
        for (int step = 0; step < MOST_PLACES && !stages.isMet(stage, state); step++) {
            int word = stages.firstBetter(stage, state);
            if (word == NONE) {
                return NONE;
            }
            state = words.turned(word, state);
            done[step] = word;
            doneCount = step + 1;
        }
        return doneCount;
    }

    public int did(int k) {
        return k >= 0 && k < doneCount ? done[k] : NONE;
    }

    public int states(int stage) throws ArrayIndexOutOfBoundsException {
        checkStage(stage);
        int before = stages.goalBefore(stage);
        int size = reach.foundCount();
        int met = 0;
        for (int i = 0; i < size; i++) {
            if (State.meets(reach.stateAt(i), before)) {
                met++;
            }
        }
        return met;
    }

    public int fails(int stage) throws ArrayIndexOutOfBoundsException {
        checkStage(stage);
        int before = stages.goalBefore(stage);
        int size = reach.foundCount();
        int failed = 0;
        for (int i = 0; i < size; i++) {
            int start = reach.stateAt(i);
            if (State.meets(start, before) && !stages.endsWell(stage, start, before)) {
                failed++;
            }
        }
        return failed;
    }

    public int setUp(int pieces, int places, int deep) {
        if (deep < 0 || deep > MOST_DEEP || !search.isTriple(pieces) || !search.isTriple(places)) {
            return WRONG_SET_UP;
        }
        int start = search.placesOf(pieces, state);
        int rowCount = search.rowsBetween(start, places);
        if (rowCount == NONE || rowCount > deep) {
            return NONE;
        }
        if (words.isFull()) {
            return TOO_MUCH;
        }
        return words.add(search.firstPath(start, rowCount), rowCount);
    }

    public int text(int word, int i) throws ArrayIndexOutOfBoundsException {
        checkWord(word);
        return words.byteOf(word, i);
    }

    private void checkMove(int move) {
        if (!turns.hasMove(move)) {
            throw new ArrayIndexOutOfBoundsException("no such move");
        }
    }

    // Pieces have the numbers of the places.
    private void checkPlace(int place) {
        if (!turns.hasPlace(place)) {
            throw new ArrayIndexOutOfBoundsException("no such place or piece");
        }
    }

    private void checkWord(int word) {
        if (!words.has(word)) {
            throw new ArrayIndexOutOfBoundsException("no such word");
        }
    }

    private void checkStage(int stage) {
        if (!stages.has(stage)) {
            throw new ArrayIndexOutOfBoundsException("no such stage");
        }
    }

    /** What can be told of a state, or made of it. */
    private static final class State {
        private static final int BITS = 3;
        private static final int ONE = 7;

        static int allHome(int places) {
            int home = 0;
            for (int place = 0; place < places; place++) {
                home |= place << BITS * place;
            }
            return home;
        }

        static int pieceAt(int state, int place) {
            return state >> BITS * place & ONE;
        }

        static int pieceTo(int piece, int place) {
            return piece << BITS * place;
        }

        static int swapped(int state, int a, int b) {
            int differ = pieceAt(state, a) ^ pieceAt(state, b);
            return state ^ pieceTo(differ, a) ^ pieceTo(differ, b);
        }

        /** Whether each piece of a goal (a bit for each) is at home. */
        static boolean meets(int state, int goal) {
            for (int place = 0; place < MOST_PLACES; place++) {
                if ((goal >> place & 1) == 1 && pieceAt(state, place) != place) {
                    return false;
                }
            }
            return true;
        }
    }

    /** The moves: where each brings what is at each place, and their orders. */
    private static final class Turns {
        private final int places;
        private final int moves;
        private final int[] goals;
        private final int[] orders;

        Turns(int places, int moves) {
            this.places = places;
            this.moves = moves;
            goals = new int[MOST_MOVES * MOST_PLACES];
            orders = new int[MOST_MOVES];
            for (int i = 0; i < goals.length; i++) {
                goals[i] = i % MOST_PLACES;
            }
            Arrays.fill(orders, 1);
        }

        int placeCount() {
            return places;
        }

        int moveCount() {
            return moves;
        }

        boolean hasMove(int move) {
            return move >= 0 && move < moves;
        }

        boolean hasPlace(int place) {
            return place >= 0 && place < places;
        }

        int orderOf(int move) {
            return orders[move];
        }

        int goalOf(int move, int place) {
            return goals[move * MOST_PLACES + place];
        }

        void exchangeGoals(int move, int a, int b) {
            int first = move * MOST_PLACES;
            int kept = goals[first + a];
            goals[first + a] = goals[first + b];
            goals[first + b] = kept;
            orders[move] = countOrder(move);
        }

        int turned(int move, int state) {
            int next = 0;
            for (int place = 0; place < places; place++) {
                next |= State.pieceTo(State.pieceAt(state, place), goalOf(move, place));
            }
            return next;
        }

        /** A number of times, any from 0 on, brought below a move's order. */
        int lessByOrder(int move, int times) {
            int order = orders[move];
            return order < 2 ? 0 : times % order;
        }

        private int countOrder(int move) {
            int home = State.allHome(places);
            int now = turned(move, home);
            int times = 1;
            while (now != home && times < MOST_ORDER) {
                now = turned(move, now);
                times++;
            }
            return times;
        }
    }

    /** The text of a word, and its reading into rows. */
    private static final class Reader {
        private static final int MOST_BYTES = 100;
        private static final int MOST_OPEN = 8;
        private static final int MOST_BUFFER = 400;
        // What may stand behind the part that was read last.
        private static final int NO_SIGN = 0;
        private static final int TURN_SIGN = 1;
        private static final int ANY_SIGN = 2;

        private final Turns turns;
        private final int[] bytes;
        private int byteCount;
        // For each bracket that is open: '(', '[', or ',' when the comma has been; where it begins.
        private final int[] kinds;
        private final int[] starts;
        private final int[] middles;
        private int depth;
        private final int[] buffer;
        private int rowCount;
        private boolean over;
        private int partStart;
        private boolean partIsLetter;
        private int signs;

        Reader(Turns turns) {
            this.turns = turns;
            bytes = new int[MOST_BYTES];
            kinds = new int[MOST_OPEN];
            starts = new int[MOST_OPEN];
            middles = new int[MOST_OPEN];
            buffer = new int[MOST_BUFFER];
        }

        boolean takeByte(int u) {
            if (u < 0 || u > 255 || byteCount >= MOST_BYTES) {
                return false;
            }
            bytes[byteCount] = u;
            byteCount++;
            return true;
        }

        /** Reads the text: the place of the first byte that can't be there, or its length. */
        int readRows() {
            depth = 0;
            rowCount = 0;
            over = false;
            signs = NO_SIGN;
            for (int i = 0; i < byteCount; i++) {
                if (!takesNext(bytes[i])) {
                    return i;
                }
            }
            return byteCount;
        }

        /** Forgets the text, but not what was read: how many bytes it had. */
        int dropText() {
            int had = byteCount;
            byteCount = 0;
            return had;
        }

        boolean isOpen() {
            return depth > 0;
        }

        /** Whether more rows came than there may; those beyond are not in the buffer. */
        boolean isOver() {
            return over;
        }

        int[] readBuffer() {
            return buffer;
        }

        /** Shortens the rows where they stand: how many are left. */
        int shortenRows() {
            int kept = 0;
            for (int i = 0; i < rowCount; i++) {
                int move = buffer[i] >> 4;
                int times = buffer[i] & 15;
                if (kept > 0 && buffer[kept - 1] >> 4 == move) {
                    kept--;
                    times = turns.lessByOrder(move, times + (buffer[kept] & 15));
                }
                if (times > 0) {
                    buffer[kept] = move << 4 | times;
                    kept++;
                }
            }
            rowCount = kept;
            return kept;
        }

        private boolean takesNext(int unit) {
            switch (unit) {
                case '(':
                case '[':
                    return takesOpening(unit);
                case ',':
                    return takesComma();
                case ')':
                    return takesClosing('(');
                case ']':
                    return takesClosing(',');
                case '\'':
                    return takesTurn();
                default:
                    return unit >= '2' && unit <= '9' ? takesDigit(unit - '0') : takesLetter(unit - 'a');
            }
        }

        private boolean takesLetter(int move) {
            if (!turns.hasMove(move)) {
                return false;
            }
            endPart(rowCount, true);
            push(move << 4 | turns.lessByOrder(move, 1));
            return true;
        }

        private boolean takesOpening(int kind) {
            if (depth >= MOST_OPEN) {
                return false;
            }
            kinds[depth] = kind;
            starts[depth] = rowCount;
            depth++;
            signs = NO_SIGN;
            return true;
        }

        private boolean takesComma() {
            if (depth == 0 || kinds[depth - 1] != '[') {
                return false;
            }
            kinds[depth - 1] = ',';
            middles[depth - 1] = rowCount;
            signs = NO_SIGN;
            return true;
        }

        private boolean takesClosing(int kind) {
            if (depth == 0 || kinds[depth - 1] != kind) {
                return false;
            }
            depth--;
            int start = starts[depth];
            if (kind == ',') {
                int middle = middles[depth];
                int end = rowCount;
                pushTurned(start, middle);
                pushTurned(middle, end);
            }
            endPart(start, false);
            return true;
        }

        private boolean takesDigit(int times) {
            if (signs != ANY_SIGN) {
                return false;
            }
            signs = TURN_SIGN;
            if (partIsLetter) {
                repeatLetter(times);
            } else {
                repeatPart(times);
            }
            return true;
        }

        private boolean takesTurn() {
            if (signs == NO_SIGN) {
                return false;
            }
            signs = NO_SIGN;
            int low = partStart;
            int high = rowCount - 1;
            while (low <= high) {
                int kept = turnedRow(buffer[low]);
                buffer[low] = turnedRow(buffer[high]);
                buffer[high] = kept;
                low++;
                high--;
            }
            return true;
        }

        private void endPart(int start, boolean isLetter) {
            partStart = start;
            partIsLetter = isLetter;
            signs = ANY_SIGN;
        }

        // A letter with its digit is one row, however often it is done.
        private void repeatLetter(int times) {
            if (partStart < rowCount) {
                int move = buffer[partStart] >> 4;
                buffer[partStart] = move << 4 | turns.lessByOrder(move, times);
            }
        }

        private void repeatPart(int times) {
            int end = rowCount;
            for (int time = 1; time < times; time++) {
                for (int i = partStart; i < end; i++) {
                    push(buffer[i]);
                }
            }
        }

        private void pushTurned(int from, int to) {
            for (int i = to - 1; i >= from; i--) {
                push(turnedRow(buffer[i]));
            }
        }

        private int turnedRow(int row) {
            int move = row >> 4;
            return move << 4 | turns.lessByOrder(move, turns.orderOf(move) - (row & 15));
        }

        // Rows never get fewer while a text is read, so a full buffer settles the answer: what is
        // read behind that matters only for whether the text is right.
        private void push(int row) {
            if (rowCount >= MOST_BUFFER) {
                over = true;
                return;
            }
            buffer[rowCount] = row;
            rowCount++;
        }
    }

    /** The words: their rows, and where each brings what is at each place. */
    private static final class Words {
        private final Turns turns;
        private final int[] rowCounts;
        private final int[] rows;
        private final int[] goals;
        private int count;

        Words(Turns turns) {
            this.turns = turns;
            rowCounts = new int[MOST_WORDS];
            rows = new int[MOST_WORDS * MOST_ROWS];
            goals = new int[MOST_WORDS * MOST_PLACES];
        }

        void forget() {
            count = 0;
        }

        boolean has(int word) {
            return word >= 0 && word < count;
        }

        boolean isFull() {
            return count >= MOST_WORDS;
        }

        /** Takes the first rows of a row of them; there is room for them, and for one word. */
        int add(int[] from, int rowCount) {
            int word = count;
            System.arraycopy(from, 0, rows, word * MOST_ROWS, rowCount);
            rowCounts[word] = rowCount;
            for (int place = 0; place < turns.placeCount(); place++) {
                goals[word * MOST_PLACES + place] = follow(word, place);
            }
            count++;
            return word;
        }

        int rowCountOf(int word) {
            return rowCounts[word];
        }

        int rowOf(int word, int k) {
            return k >= 0 && k < rowCounts[word] ? rows[word * MOST_ROWS + k] : NONE;
        }

        int goalOf(int word, int place) {
            return goals[word * MOST_PLACES + place];
        }

        int turned(int word, int state) {
            int next = 0;
            for (int place = 0; place < turns.placeCount(); place++) {
                next |= State.pieceTo(State.pieceAt(state, place), goalOf(word, place));
            }
            return next;
        }

        /** How many pieces of a goal are at home when a word has been done to a state. */
        int homeBehind(int word, int state, int goal) {
            int home = 0;
            for (int place = 0; place < turns.placeCount(); place++) {
                int piece = State.pieceAt(state, place);
                if ((goal >> piece & 1) == 1 && goalOf(word, place) == piece) {
                    home++;
                }
            }
            return home;
        }

        int byteOf(int word, int i) {
            int left = i;
            for (int k = 0; k < rowCounts[word] && left >= 0; k++) {
                int row = rows[word * MOST_ROWS + k];
                int size = byteCount(row & 15);
                if (left < size) {
                    return byteOfRow(row, left);
                }
                left -= size;
            }
            return NONE;
        }

        private int byteCount(int times) {
            if (times < 2) {
                return 1;
            }
            return times < 10 ? 2 : 3;
        }

        private int byteOfRow(int row, int i) {
            int times = row & 15;
            if (i == 0) {
                return 'a' + (row >> 4);
            }
            return i == 1 && times >= 10 ? '0' + times / 10 : '0' + times % 10;
        }

        private int follow(int word, int place) {
            int now = place;
            for (int k = 0; k < rowCounts[word]; k++) {
                int row = rows[word * MOST_ROWS + k];
                for (int time = 0; time < (row & 15); time++) {
                    now = turns.goalOf(row >> 4, now);
                }
            }
            return now;
        }
    }

    /** The stages: their goals, a bit for each piece, and their words in order. */
    private static final class Stages {
        private final Words words;
        private final int[] goals;
        private final int[] useCounts;
        private final int[] uses;
        private int count;

        Stages(Words words) {
            this.words = words;
            goals = new int[MOST_STAGES];
            useCounts = new int[MOST_STAGES];
            uses = new int[MOST_STAGES * MOST_USES];
        }

        void forget() {
            count = 0;
        }

        boolean has(int stage) {
            return stage >= 0 && stage < count;
        }

        int add() {
            if (count >= MOST_STAGES) {
                return NONE;
            }
            goals[count] = 0;
            useCounts[count] = 0;
            count++;
            return count - 1;
        }

        boolean setGoal(int stage, int piece, boolean on) {
            boolean was = (goals[stage] >> piece & 1) == 1;
            if (was == on) {
                return false;
            }
            goals[stage] ^= 1 << piece;
            return true;
        }

        boolean addUse(int stage, int word) {
            int used = useCounts[stage];
            if (used >= MOST_USES) {
                return false;
            }
            uses[stage * MOST_USES + used] = word;
            useCounts[stage] = used + 1;
            return true;
        }

        boolean isMet(int stage, int state) {
            return State.meets(state, goals[stage]);
        }

        /** The pieces of the goals of all stages before one. */
        int goalBefore(int stage) {
            int all = 0;
            for (int i = 0; i < stage; i++) {
                all |= goals[i];
            }
            return all;
        }

        /** The first word of a stage that brings more of its pieces home, or NONE. */
        int firstBetter(int stage, int state) {
            int goal = goals[stage];
            int home = homeCount(state, goal);
            for (int k = 0; k < useCounts[stage]; k++) {
                int word = uses[stage * MOST_USES + k];
                if (words.homeBehind(word, state, goal) > home) {
                    return word;
                }
            }
            return NONE;
        }

        /** Whether a stage done to a state does not fail, and meets another goal behind it. */
        boolean endsWell(int stage, int start, int other) {
            int now = start;
            for (int step = 0; step < MOST_PLACES && !isMet(stage, now); step++) {
                int word = firstBetter(stage, now);
                if (word == NONE) {
                    return false;
                }
                now = words.turned(word, now);
            }
            return State.meets(now, other);
        }

        private int homeCount(int state, int goal) {
            int home = 0;
            for (int piece = 0; piece < MOST_PLACES; piece++) {
                if ((goal >> piece & 1) == 1 && State.pieceAt(state, piece) == piece) {
                    home++;
                }
            }
            return home;
        }
    }

    /** The states that the moves bring about; found once, and kept until a move changes. */
    private static final class Reach {
        private final Turns turns;
        private final int[] found;
        private final int[] seen;
        private int count;

        Reach(Turns turns) {
            this.turns = turns;
            int all = 1;
            for (int factor = 2; factor <= turns.placeCount(); factor++) {
                all *= factor;
            }
            found = new int[all];
            seen = new int[all / 32 + 1];
        }

        void forget() {
            count = 0;
        }

        int foundCount() {
            if (count == 0) {
                findAll();
            }
            return count;
        }

        int stateAt(int i) {
            return found[i];
        }

        private void findAll() {
            Arrays.fill(seen, 0);
            add(State.allHome(turns.placeCount()));
            for (int i = 0; i < found.length && i < count; i++) {
                for (int move = 0; move < turns.moveCount(); move++) {
                    add(turns.turned(move, found[i]));
                }
            }
        }

        private void add(int state) {
            int rank = rankOf(state);
            int bit = 1 << (rank & 31);
            if ((seen[rank >> 5] & bit) == 0) {
                seen[rank >> 5] |= bit;
                found[count] = state;
                count++;
            }
        }

        // Each state has a number of its own below the count of all states: a bit of memory each.
        private int rankOf(int state) {
            int rank = 0;
            int used = 0;
            for (int place = 0; place < turns.placeCount(); place++) {
                int bit = 1 << State.pieceAt(state, place);
                int lesserLeft = Integer.bitCount(~used & bit - 1);
                rank = rank * (turns.placeCount() - place) + lesserLeft;
                used |= bit;
            }
            return rank;
        }
    }

    /** The search for set-ups, over three places told by three digits in base 8 (a TRIPLE). */
    private static final class Search {
        private static final int TRIPLES = 512;

        private final Turns turns;
        private final int[] far;
        private final int[] queue;
        private int queued;
        private final int[] path;

        Search(Turns turns) {
            this.turns = turns;
            far = new int[TRIPLES];
            queue = new int[TRIPLES];
            path = new int[MOST_DEEP];
        }

        boolean isTriple(int triple) {
            if (triple < 0 || triple >= TRIPLES) {
                return false;
            }
            int a = State.pieceAt(triple, 0);
            int b = State.pieceAt(triple, 1);
            int c = State.pieceAt(triple, 2);
            return a != b && a != c && b != c && turns.hasPlace(Math.max(a, Math.max(b, c)));
        }

        /** The triple of the places at which the pieces of a triple are. */
        int placesOf(int pieces, int state) {
            int triple = 0;
            for (int place = 0; place < turns.placeCount(); place++) {
                int piece = State.pieceAt(state, place);
                for (int digit = 0; digit < 3; digit++) {
                    if (State.pieceAt(pieces, digit) == piece) {
                        triple |= State.pieceTo(place, digit);
                    }
                }
            }
            return triple;
        }

        /** How many rows the shortest word from one triple to another has, or NONE. */
        int rowsBetween(int start, int end) {
            // From the end on, so that firstPath can walk to it; a row has a row that undoes it,
            // so it is as far there as back.
            Arrays.fill(far, NONE);
            queued = 0;
            reachTriple(end, 0);
            for (int i = 0; i < TRIPLES && i < queued; i++) {
                reachNeighbours(queue[i]);
            }
            return far[start];
        }

        /** The first of the shortest words, when rowsBetween has told how many rows it has. */
        int[] firstPath(int start, int rowCount) {
            int now = start;
            for (int k = 0; k < rowCount; k++) {
                int row = firstRowTo(now, rowCount - k - 1);
                path[k] = row;
                for (int time = 0; time < (row & 15); time++) {
                    now = turnedTriple(row >> 4, now);
                }
            }
            return path;
        }

        private void reachTriple(int triple, int rows) {
            if (far[triple] == NONE) {
                far[triple] = rows;
                queue[queued] = triple;
                queued++;
            }
        }

        private void reachNeighbours(int from) {
            for (int move = 0; move < turns.moveCount(); move++) {
                int now = from;
                for (int time = 1; time < turns.orderOf(move); time++) {
                    now = turnedTriple(move, now);
                    reachTriple(now, far[from] + 1);
                }
            }
        }

        private int firstRowTo(int from, int rowsLeft) {
            for (int move = 0; move < turns.moveCount(); move++) {
                int now = from;
                for (int time = 1; time < turns.orderOf(move); time++) {
                    now = turnedTriple(move, now);
                    if (far[now] == rowsLeft) {
                        return move << 4 | time;
                    }
                }
            }
            return 0;
        }

        private int turnedTriple(int move, int triple) {
            int next = 0;
            for (int digit = 0; digit < 3; digit++) {
                next |= State.pieceTo(turns.goalOf(move, State.pieceAt(triple, digit)), digit);
            }
            return next;
        }
    }
}
