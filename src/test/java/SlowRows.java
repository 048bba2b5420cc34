import java.util.ArrayDeque;
import java.util.ArrayList;
import java.util.Arrays;
import java.util.Deque;
import java.util.HashSet;
import java.util.LinkedHashSet;
import java.util.List;
import java.util.Set;

/**
 * The document once more, by the plainest means: lists, recursion, search over whole words. It
 * answers null where the document wants an exception, and shares no way of working with StageRows.
 */
final class SlowRows {
    private record Row(int move, int times) {
    }

    private static final class Stage {
        final Set<Integer> goal = new HashSet<>();
        final List<Integer> words = new ArrayList<>();
    }

    /** The place of the first byte that can't be there. */
    private static final class Wrong extends Exception {
        private static final long serialVersionUID = 1L;
        final int place;

        Wrong(int place) {
            this.place = place;
        }
    }

    private final int places;
    private final int moves;
    private final int[][] goals;
    private final StringBuilder text = new StringBuilder();
    private final List<List<Row>> words = new ArrayList<>();
    private final List<Stage> stages = new ArrayList<>();
    private List<Integer> pieces = new ArrayList<>();
    private List<Integer> done = new ArrayList<>();
    private int next;

    SlowRows(int places, int moves) {
        this.places = places < 2 ? 2 : places > 7 ? 7 : places;
        this.moves = moves < 1 ? 1 : moves > 6 ? 6 : moves;
        goals = new int[this.moves][this.places];
        for (int[] goal : goals) {
            for (int place = 0; place < this.places; place++) {
                goal[place] = place;
            }
        }
        pieces = home();
    }

    private List<Integer> home() {
        List<Integer> all = new ArrayList<>();
        for (int place = 0; place < places; place++) {
            all.add(place);
        }
        return all;
    }

    private boolean noPlace(int place) {
        return place < 0 || place >= places;
    }

    private boolean noMove(int move) {
        return move < 0 || move >= moves;
    }

    private boolean noWord(int word) {
        return word < 0 || word >= words.size();
    }

    private boolean noStage(int stage) {
        return stage < 0 || stage >= stages.size();
    }

    private static Long bool(boolean b) {
        return b ? 1L : 0L;
    }

    Long exchange(int move, int a, int b) {
        if (noMove(move) || noPlace(a) || noPlace(b)) {
            return null;
        }
        if (a == b) {
            return 0L;
        }
        int kept = goals[move][a];
        goals[move][a] = goals[move][b];
        goals[move][b] = kept;
        words.clear();
        stages.clear();
        done = new ArrayList<>();
        return 1L;
    }

    Long order(int move) {
        return noMove(move) ? null : (long) orderOf(move);
    }

    private int orderOf(int move) {
        List<Integer> now = turned(home(), move);
        int times = 1;
        while (!now.equals(home())) {
            now = turned(now, move);
            times++;
        }
        return times;
    }

    private List<Integer> turned(List<Integer> state, int move) {
        Integer[] after = new Integer[places];
        for (int place = 0; place < places; place++) {
            after[goals[move][place]] = state.get(place);
        }
        return new ArrayList<>(Arrays.asList(after));
    }

    private List<Integer> worded(List<Integer> state, List<Row> word) {
        List<Integer> now = state;
        for (Row row : word) {
            for (int time = 0; time < row.times; time++) {
                now = turned(now, row.move);
            }
        }
        return now;
    }

    Long unit(int u) {
        if (u < 0 || u > 255 || text.length() == 100) {
            return 0L;
        }
        text.append((char) u);
        return 1L;
    }

    Long read() {
        String all = text.toString();
        text.setLength(0);
        next = 0;
        List<Row> rows;
        try {
            rows = parts(all, 0, "");
        } catch (Wrong wrong) {
            return (long) (-1 - wrong.place);
        }
        if (rows.size() > 400 || words.size() == 30) {
            return -200L;
        }
        List<Row> shortened = shortened(rows);
        if (shortened.size() > 40) {
            return -200L;
        }
        words.add(shortened);
        return (long) (words.size() - 1);
    }

    /** Parts up to one of the bytes that may end them, which is left; the end of all for none. */
    private List<Row> parts(String all, int deep, String ends) throws Wrong {
        List<Row> rows = new ArrayList<>();
        while (next < all.length() && ends.indexOf(all.charAt(next)) < 0) {
            rows.addAll(part(all, deep));
        }
        if (next == all.length() && !ends.isEmpty()) {
            throw new Wrong(next);
        }
        return rows;
    }

    private List<Row> part(String all, int deep) throws Wrong {
        char c = all.charAt(next);
        if (c >= 'a' && c < 'a' + moves) {
            next++;
            int order = orderOf(c - 'a');
            int times = digit(all);
            boolean turn = turn(all);
            int real = turn ? Math.floorMod(-times, order) : times % order;
            return List.of(new Row(c - 'a', real));
        }
        if (c != '(' && c != '[' || deep == 8) {
            throw new Wrong(next);
        }
        next++;
        List<Row> rows = new ArrayList<>();
        if (c == '(') {
            rows.addAll(parts(all, deep + 1, ")"));
        } else {
            List<Row> u = parts(all, deep + 1, ",");
            next++;
            List<Row> v = parts(all, deep + 1, "]");
            rows.addAll(u);
            rows.addAll(v);
            rows.addAll(around(u));
            rows.addAll(around(v));
        }
        next++;
        List<Row> often = new ArrayList<>();
        int times = digit(all);
        // Past 400 rows the number does not matter, but the list must not outgrow the machine.
        for (int time = 0; time < times && often.size() <= 400; time++) {
            often.addAll(rows.size() > 401 ? rows.subList(0, 401) : rows);
        }
        return turn(all) ? around(often) : often;
    }

    private int digit(String all) {
        if (next < all.length() && all.charAt(next) >= '2' && all.charAt(next) <= '9') {
            next++;
            return all.charAt(next - 1) - '0';
        }
        return 1;
    }

    private boolean turn(String all) {
        if (next < all.length() && all.charAt(next) == '\'') {
            next++;
            return true;
        }
        return false;
    }

    private List<Row> around(List<Row> rows) {
        List<Row> back = new ArrayList<>();
        for (int i = rows.size() - 1; i >= 0; i--) {
            Row row = rows.get(i);
            back.add(new Row(row.move, Math.floorMod(-row.times, orderOf(row.move))));
        }
        return back;
    }

    private List<Row> shortened(List<Row> rows) {
        List<Row> now = new ArrayList<>(rows);
        now.removeIf(row -> row.times == 0);
        int i = 0;
        while (i + 1 < now.size()) {
            Row first = now.get(i);
            Row second = now.get(i + 1);
            if (first.move != second.move) {
                i++;
                continue;
            }
            int times = (first.times + second.times) % orderOf(first.move);
            now.remove(i);
            now.remove(i);
            if (times > 0) {
                now.add(i, new Row(first.move, times));
            }
            i = 0;
        }
        return now;
    }

    Long length(int word) {
        return noWord(word) ? null : (long) words.get(word).size();
    }

    Long row(int word, int k) {
        if (noWord(word)) {
            return null;
        }
        if (k < 0 || k >= words.get(word).size()) {
            return -1L;
        }
        Row row = words.get(word).get(k);
        return 16L * row.move + row.times;
    }

    Long image(int word, int place) {
        if (noWord(word) || noPlace(place)) {
            return null;
        }
        return (long) worded(home(), words.get(word)).indexOf(place);
    }

    Long act(int word) {
        if (noWord(word)) {
            return null;
        }
        pieces = worded(pieces, words.get(word));
        return 0L;
    }

    Long swap(int a, int b) {
        if (noPlace(a) || noPlace(b)) {
            return null;
        }
        Integer kept = pieces.get(a);
        pieces.set(a, pieces.get(b));
        pieces.set(b, kept);
        return bool(a != b);
    }

    Long at(int place) {
        return noPlace(place) ? null : (long) pieces.get(place);
    }

    Long stage() {
        if (stages.size() == 8) {
            return -1L;
        }
        stages.add(new Stage());
        return (long) (stages.size() - 1);
    }

    Long goal(int stage, int piece, boolean on) {
        if (noStage(stage) || noPlace(piece)) {
            return null;
        }
        Set<Integer> goal = stages.get(stage).goal;
        return bool(on ? goal.add(piece) : goal.remove(piece));
    }

    Long use(int stage, int word) {
        if (noStage(stage) || noWord(word)) {
            return null;
        }
        List<Integer> used = stages.get(stage).words;
        return bool(used.size() < 12 && used.add(word));
    }

    Long run(int stage) {
        if (noStage(stage)) {
            return null;
        }
        done = new ArrayList<>();
        List<Integer> last = doStage(stages.get(stage), pieces, done);
        pieces = last;
        return met(stages.get(stage), last) ? done.size() : -1L;
    }

    private boolean met(Stage stage, List<Integer> state) {
        return atHome(stage, state) == stage.goal.size();
    }

    private int atHome(Stage stage, List<Integer> state) {
        int home = 0;
        for (int piece : stage.goal) {
            home += state.get(piece) == piece ? 1 : 0;
        }
        return home;
    }

    /** The state behind a stage: if its goal is not met there, the stage failed. */
    private List<Integer> doStage(Stage stage, List<Integer> start, List<Integer> told) {
        List<Integer> now = start;
        boolean better = true;
        while (better) {
            better = false;
            for (int word : stage.words) {
                List<Integer> after = worded(now, words.get(word));
                if (atHome(stage, after) > atHome(stage, now)) {
                    now = after;
                    told.add(word);
                    better = true;
                    break;
                }
            }
        }
        return now;
    }

    Long did(int k) {
        return k < 0 || k >= done.size() ? -1L : done.get(k);
    }

    private List<List<Integer>> statesBefore(int stage) {
        Set<List<Integer>> seen = new LinkedHashSet<>();
        Deque<List<Integer>> open = new ArrayDeque<>();
        seen.add(home());
        open.add(home());
        while (!open.isEmpty()) {
            List<Integer> now = open.pop();
            for (int move = 0; move < moves; move++) {
                List<Integer> after = turned(now, move);
                if (seen.add(after)) {
                    open.push(after);
                }
            }
        }
        List<List<Integer>> all = new ArrayList<>(seen);
        all.removeIf(state -> !metBefore(stage, state));
        return all;
    }

    private boolean metBefore(int stage, List<Integer> state) {
        for (int i = 0; i < stage; i++) {
            if (!met(stages.get(i), state)) {
                return false;
            }
        }
        return true;
    }

    Long states(int stage) {
        return noStage(stage) ? null : (long) statesBefore(stage).size();
    }

    Long fails(int stage) {
        if (noStage(stage)) {
            return null;
        }
        long failed = 0;
        for (List<Integer> state : statesBefore(stage)) {
            List<Integer> last = doStage(stages.get(stage), state, new ArrayList<>());
            if (!met(stages.get(stage), last) || !metBefore(stage, last)) {
                failed++;
            }
        }
        return failed;
    }

    Long setUp(int three, int goal, int deep) {
        if (deep < 0 || deep > 9 || wrongTriple(three) || wrongTriple(goal)) {
            return -2L;
        }
        int[] now = new int[3];
        int[] to = new int[3];
        for (int i = 0; i < 3; i++) {
            now[i] = pieces.indexOf(three / power(i) % 8);
            to[i] = goal / power(i) % 8;
        }
        for (int rows = 0; rows <= deep; rows++) {
            List<Row> word = new ArrayList<>();
            if (finds(now, to, rows, word, new HashSet<>())) {
                if (words.size() == 30) {
                    return -200L;
                }
                words.add(word);
                return (long) (words.size() - 1);
            }
        }
        return -1L;
    }

    private static int power(int i) {
        return i == 0 ? 1 : i == 1 ? 8 : 64;
    }

    private boolean wrongTriple(int triple) {
        if (triple < 0 || triple / 512 != 0) {
            return true;
        }
        Set<Integer> digits = new HashSet<>();
        for (int i = 0; i < 3; i++) {
            digits.add(triple / power(i) % 8);
        }
        digits.removeIf(this::noPlace);
        return digits.size() != 3;
    }

    /** All words of just so many rows in the document's order; in vain: what is known to fail. */
    private boolean finds(int[] now, int[] to, int left, List<Row> word, Set<String> inVain) {
        if (left == 0) {
            return Arrays.equals(now, to);
        }
        int last = word.isEmpty() ? -1 : word.get(word.size() - 1).move;
        String here = Arrays.toString(now) + last + "/" + left;
        if (inVain.contains(here)) {
            return false;
        }
        for (int move = 0; move < moves; move++) {
            int[] after = now.clone();
            for (int times = 1; move != last && times < orderOf(move); times++) {
                for (int i = 0; i < 3; i++) {
                    after[i] = goals[move][after[i]];
                }
                word.add(new Row(move, times));
                if (finds(after, to, left - 1, word, inVain)) {
                    return true;
                }
                word.remove(word.size() - 1);
            }
        }
        inVain.add(here);
        return false;
    }

    Long text(int word, int i) {
        if (noWord(word)) {
            return null;
        }
        StringBuilder all = new StringBuilder();
        for (Row row : words.get(word)) {
            all.append((char) ('a' + row.move));
            if (row.times > 1) {
                all.append(row.times);
            }
        }
        return i < 0 || i >= all.length() ? -1L : all.charAt(i);
    }
}
