import java.util.ArrayDeque;
import java.util.ArrayList;
import java.util.Arrays;
import java.util.Comparator;
import java.util.Deque;
import java.util.HashMap;
import java.util.List;
import java.util.Map;
import java.util.TreeMap;

/**
 * The document told a second time, with the Java library and without a thought of room or speed:
 * nothing is kept but the state itself, all else is found anew at every call.
 */
final class Model {
    static final int BAD = -1001;
    static final int STATE = -1002;
    static final int FULL = -1003;
    static final int NONE = -1009;

    private static final int TOO_MUCH = 1000;

    /** Numbers of a question: 0 height, 1 right, 2 keeps, 3 group, 4 choices. */
    private record Sheet(int version, List<Integer> marks) {
    }

    private record State(List<List<Integer>> questions, List<Integer> seeds, List<Sheet> sheets, int lines) {
    }

    private record Version(List<Integer> order, List<List<Integer>> shown, List<Integer> keys) {
    }

    private State now = new State(List.of(), List.of(), List.of(), 30);
    private final Deque<State> past = new ArrayDeque<>();
    private String buffer = "";
    private List<List<Integer>> mixedFor = null;
    private final Map<Integer, Version> mixedBySeed = new HashMap<>();

    // ---- acts

    private void become(List<List<Integer>> questions, List<Integer> seeds, List<Sheet> sheets, int lines) {
        past.addLast(now);
        while (past.size() > 5) {
            past.removeFirst();
        }
        now = new State(List.copyOf(questions), List.copyOf(seeds), List.copyOf(sheets), lines);
    }

    private static <T> List<T> with(List<T> list, T last) {
        List<T> longer = new ArrayList<>(list);
        longer.add(last);
        return longer;
    }

    private static <T> List<T> without(List<T> list, int index) {
        List<T> shorter = new ArrayList<>(list);
        shorter.remove(index);
        return shorter;
    }

    private static boolean in(long value, long least, long greatest) {
        return least <= value && value <= greatest;
    }

    private static boolean allowed(int what, int value, int choices) {
        return what == 0 && in(value, 1, 9)
                || what == 1 && in(value, 0, choices - 1)
                || what == 2 && in(value, 0, Math.round(Math.pow(2, choices)) - 1)
                || what == 3 && in(value, 0, 5);
    }

    private boolean noQuestion(int question) {
        return !in(question, 0, now.questions.size() - 1);
    }

    private boolean noVersion(int version) {
        return !in(version, 0, now.seeds.size() - 1);
    }

    private boolean noSheet(int sheet) {
        return !in(sheet, 0, now.sheets.size() - 1);
    }

    private boolean noPlace(int place) {
        return noQuestion(place);
    }

    int add(int height, int choices, int right, int keeps, int group) {
        if (!in(choices, 2, 5)) {
            return BAD;
        }
        if (!allowed(0, height, choices) || !allowed(1, right, choices)
                || !allowed(2, keeps, choices) || !allowed(3, group, choices)) {
            return BAD;
        }
        if (!now.sheets.isEmpty()) {
            return STATE;
        }
        if (now.questions.size() == 20) {
            return FULL;
        }
        become(with(now.questions, List.of(height, right, keeps, group, choices)), now.seeds, now.sheets, now.lines);
        return now.questions.size() - 1;
    }

    int remove(int question) {
        if (noQuestion(question)) {
            return BAD;
        }
        if (!now.sheets.isEmpty()) {
            return STATE;
        }
        become(without(now.questions, question), now.seeds, now.sheets, now.lines);
        return now.questions.size();
    }

    int change(int question, int what, int value) {
        if (noQuestion(question) || !allowed(what, value, now.questions.get(question).get(4))) {
            return BAD;
        }
        if (!now.sheets.isEmpty()) {
            return STATE;
        }
        List<Integer> numbers = new ArrayList<>(now.questions.get(question));
        int previous = numbers.set(what, value);
        List<List<Integer>> questions = new ArrayList<>(now.questions);
        questions.set(question, numbers);
        become(questions, now.seeds, now.sheets, now.lines);
        return previous;
    }

    int question(int question, int what) {
        return noQuestion(question) || !in(what, 0, 4) ? BAD : now.questions.get(question).get(what);
    }

    int questions() {
        return now.questions.size();
    }

    // ---- versions

    int version(int seed) {
        if (!now.sheets.isEmpty()) {
            return STATE;
        }
        if (now.seeds.size() == 6) {
            return FULL;
        }
        become(now.questions, with(now.seeds, seed), now.sheets, now.lines);
        return now.seeds.size() - 1;
    }

    long drop() {
        if (!now.sheets.isEmpty() || now.seeds.isEmpty()) {
            return STATE;
        }
        long seed = now.seeds.get(now.seeds.size() - 1);
        become(now.questions, without(now.seeds, now.seeds.size() - 1), now.sheets, now.lines);
        return seed;
    }

    int versions() {
        return now.seeds.size();
    }

    /** Lots from a seed, in wider numbers: x is kept as the rest by 2 to the 32. */
    private static final class Source {
        private long x;

        Source(int seed) {
            x = seed & 0xFFFFFFFFL;
        }

        int lot(int of) {
            x = (1103515245L * x + 12345L) % 4294967296L;
            return (int) (x / 65536 % of);
        }

        <T> void mix(List<T> row) {
            for (int i = row.size() - 1; i > 0; i--) {
                int j = lot(i + 1);
                T thing = row.get(i);
                row.set(i, row.get(j));
                row.set(j, thing);
            }
        }
    }

    private List<List<Integer>> units() {
        List<List<Integer>> units = new ArrayList<>();
        TreeMap<Integer, List<Integer>> groups = new TreeMap<>();
        for (int q = 0; q < now.questions.size(); q++) {
            int group = now.questions.get(q).get(3);
            List<Integer> unit = group == 0 ? null : groups.get(group);
            if (unit == null) {
                unit = new ArrayList<>();
                units.add(unit);
                if (group != 0) {
                    groups.put(group, unit);
                }
            }
            unit.add(q);
        }
        return units;
    }

    private Version mixed(int seed) {
        Source source = new Source(seed);
        List<List<Integer>> units = units();
        source.mix(units);
        List<Integer> order = new ArrayList<>();
        for (List<Integer> unit : units) {
            source.mix(unit);
            order.addAll(unit);
        }
        List<List<Integer>> shown = new ArrayList<>();
        List<Integer> keys = new ArrayList<>();
        for (int q : order) {
            List<Integer> row = shownChoices(source, now.questions.get(q));
            shown.add(row);
            keys.add(row.indexOf(now.questions.get(q).get(1)));
        }
        return new Version(order, shown, keys);
    }

    private static List<Integer> shownChoices(Source source, List<Integer> numbers) {
        String bits = new StringBuilder(Integer.toBinaryString(32 + numbers.get(2))).reverse().toString();
        List<Integer> loose = new ArrayList<>();
        for (int c = 0; c < numbers.get(4); c++) {
            if (bits.charAt(c) == '0') {
                loose.add(c);
            }
        }
        source.mix(loose);
        List<Integer> row = new ArrayList<>();
        for (int c = 0; c < numbers.get(4); c++) {
            row.add(bits.charAt(c) == '1' ? Integer.valueOf(c) : loose.remove(0));
        }
        return row;
    }

    /** Versions by seeds, for the questions that mixedFor holds: only to make the model quick enough. */
    private Version numbered(int version) {
        if (mixedFor != now.questions) {
            mixedFor = now.questions;
            mixedBySeed.clear();
        }
        return mixedBySeed.computeIfAbsent(now.seeds.get(version), this::mixed);
    }

    int at(int version, int place, int what) {
        if (noVersion(version) || noPlace(place) || !in(what, 0, 3)) {
            return BAD;
        }
        Version v = numbered(version);
        if (what == 0) {
            return v.order.get(place);
        }
        if (what == 1) {
            return v.keys.get(place);
        }
        int begin = 0;
        int page = 0;
        for (int count : pageCounts(v)) {
            if (place < begin + count) {
                return what == 2 ? page : height(v, begin, place);
            }
            begin += count;
            page++;
        }
        throw new IllegalStateException("a place without a page");
    }

    int where(int version, int question) {
        return noVersion(version) || noQuestion(question) ? BAD : numbered(version).order.indexOf(question);
    }

    int choice(int version, int place, int k) {
        if (noVersion(version) || noPlace(place)) {
            return BAD;
        }
        List<Integer> row = numbered(version).shown.get(place);
        return in(k, 0, row.size() - 1) ? row.get(k) : BAD;
    }

    private static int same(List<Integer> a, List<Integer> b) {
        int same = 0;
        for (int i = 0; i < a.size(); i++) {
            same += a.get(i).equals(b.get(i)) ? 1 : 0;
        }
        return same;
    }

    int alike(int v, int w, int what) {
        if (noVersion(v) || noVersion(w) || !in(what, 0, 2)) {
            return BAD;
        }
        Version a = numbered(v);
        Version b = numbered(w);
        if (what < 2) {
            return what == 0 ? same(a.order, b.order) : same(a.keys, b.keys);
        }
        int pairs = 0;
        for (int i = 0; i + 1 < a.order.size(); i++) {
            for (int j = 0; j + 1 < b.order.size(); j++) {
                pairs += a.order.subList(i, i + 2).equals(b.order.subList(j, j + 2)) ? 1 : 0;
            }
        }
        return pairs;
    }

    long unlike(int from, int many) {
        if (!in(many, 1, 40)) {
            return -4611686018427387905L;
        }
        List<int[]> looked = new ArrayList<>();
        for (int i = 0; i < many; i++) {
            List<Integer> keys = mixed(from + i).keys;
            int worst = 0;
            for (int v = 0; v < now.seeds.size(); v++) {
                worst = Math.max(worst, same(keys, numbered(v).keys));
            }
            looked.add(new int[] {from + i, worst});
        }
        looked.sort(Comparator.comparingInt((int[] l) -> l[1]));
        return looked.get(0)[0];
    }

    // ---- pages

    int setLines(int lines) {
        if (!in(lines, 9, 60)) {
            return BAD;
        }
        int previous = now.lines;
        become(now.questions, now.seeds, now.sheets, lines);
        return previous;
    }

    private int height(Version v, int from, int to) {
        int sum = 0;
        for (int q : v.order.subList(from, to)) {
            sum += now.questions.get(q).get(0);
        }
        return sum;
    }

    /** The least greatest height for each start and number of pages, TOO_MUCH if it can't be. */
    private int[][] leastHeights(Version v) {
        int n = v.order.size();
        int[][] least = new int[n + 1][n + 1];
        for (int[] row : least) {
            Arrays.fill(row, TOO_MUCH);
        }
        least[n][0] = 0;
        for (int start = n - 1; start >= 0; start--) {
            for (int pages = 1; pages <= n; pages++) {
                for (int end = start + 1; end <= n; end++) {
                    int first = height(v, start, end);
                    if (first <= now.lines) {
                        least[start][pages] = Math.min(least[start][pages], Math.max(first, least[end][pages - 1]));
                    }
                }
            }
        }
        return least;
    }

    private List<Integer> pageCounts(Version v) {
        int[][] least = leastHeights(v);
        int left = 0;
        while (least[0][left] == TOO_MUCH) {
            left++;
        }
        int bound = least[0][left];
        List<Integer> counts = new ArrayList<>();
        int start = 0;
        while (left > 0) {
            int count = 1;
            while (height(v, start, start + count) > bound || least[start + count][left - 1] > bound) {
                count++;
            }
            counts.add(count);
            start += count;
            left--;
        }
        return counts;
    }

    int pages(int version) {
        return noVersion(version) ? BAD : pageCounts(numbered(version)).size();
    }

    int page(int version, int page, int what) {
        if (noVersion(version) || !in(what, 0, 1)) {
            return BAD;
        }
        Version v = numbered(version);
        List<Integer> counts = pageCounts(v);
        if (!in(page, 0, counts.size() - 1)) {
            return BAD;
        }
        int begin = 0;
        for (int count : counts.subList(0, page)) {
            begin += count;
        }
        return what == 0 ? counts.get(page) : height(v, begin, begin + counts.get(page));
    }

    // ---- sheets

    int type(int c) {
        if (!in(c, 32, 126)) {
            return BAD;
        }
        if (buffer.length() == 20) {
            return FULL;
        }
        buffer += (char) c;
        return buffer.length();
    }

    int clear() {
        int had = buffer.length();
        buffer = "";
        return had;
    }

    int sheet(int version) {
        if (noVersion(version)) {
            return BAD;
        }
        if (now.sheets.size() == 20) {
            return FULL;
        }
        Version v = numbered(version);
        List<Integer> marks = new ArrayList<>();
        for (int i = 0; i < buffer.length(); i++) {
            String can = i < v.order.size() ? "-" + "ABCDE".substring(0, v.shown.get(i).size()) : "";
            if (can.indexOf(buffer.charAt(i)) < 0) {
                return -100 - i;
            }
            marks.add(can.indexOf(buffer.charAt(i)) - 1);
        }
        if (buffer.length() < v.order.size()) {
            return -100 - buffer.length();
        }
        buffer = "";
        become(now.questions, now.seeds, with(now.sheets, new Sheet(version, marks)), now.lines);
        return now.sheets.size() - 1;
    }

    int guess(int version, int seed, int skill) {
        if (noVersion(version) || !in(skill, 0, 10)) {
            return BAD;
        }
        if (now.sheets.size() == 20) {
            return FULL;
        }
        Version v = numbered(version);
        Source source = new Source(seed);
        List<Integer> marks = new ArrayList<>();
        for (int p = 0; p < v.order.size(); p++) {
            if (source.lot(10) < skill) {
                marks.add(v.keys.get(p));
            } else {
                marks.add(source.lot(v.shown.get(p).size()));
            }
        }
        become(now.questions, now.seeds, with(now.sheets, new Sheet(version, marks)), now.lines);
        return now.sheets.size() - 1;
    }

    int forget() {
        int had = now.sheets.size();
        become(now.questions, now.seeds, List.of(), now.lines);
        return had;
    }

    private int right(int question) {
        return now.questions.get(question).get(1);
    }

    private int count(int sheet, boolean rightOnes) {
        int many = 0;
        for (int q = 0; q < now.questions.size(); q++) {
            int taken = answer(sheet, q);
            many += taken != NONE && taken == right(q) == rightOnes ? 1 : 0;
        }
        return many;
    }

    private int points(int sheet) {
        return 4 * count(sheet, true) - count(sheet, false);
    }

    int result(int sheet, int what) {
        if (noSheet(sheet) || !in(what, 0, 4)) {
            return BAD;
        }
        switch (what) {
            case 0: return now.sheets.get(sheet).version;
            case 1: return points(sheet);
            case 2: return count(sheet, true);
            case 3: return count(sheet, false);
            default:
        }
        int rank = 1;
        for (int s = 0; s < now.sheets.size(); s++) {
            rank += points(s) > points(sheet) ? 1 : 0;
        }
        return rank;
    }

    int answer(int sheet, int question) {
        if (noSheet(sheet) || noQuestion(question)) {
            return BAD;
        }
        Sheet s = now.sheets.get(sheet);
        Version v = numbered(s.version);
        int place = v.order.indexOf(question);
        int mark = s.marks.get(place);
        return mark < 0 ? NONE : v.shown.get(place).get(mark);
    }

    int about(int question, int what) {
        if (noQuestion(question) || !in(what, 0, 3)) {
            return BAD;
        }
        int[] took = new int[5];
        int silent = 0;
        for (int s = 0; s < now.sheets.size(); s++) {
            int taken = answer(s, question);
            if (taken == NONE) {
                silent++;
            } else {
                took[taken]++;
            }
        }
        int rightly = took[right(question)];
        took[right(question)] = 0;
        if (what < 3) {
            return what == 0 ? rightly : what == 1 ? Arrays.stream(took).sum() : silent;
        }
        int top = Arrays.stream(took).max().getAsInt();
        for (int c = 0; c < 5 && top > 0; c++) {
            if (took[c] == top) {
                return c;
            }
        }
        return NONE;
    }

    float parting(int question) {
        if (noQuestion(question)) {
            return -2;
        }
        List<Integer> sheets = new ArrayList<>();
        for (int s = 0; s < now.sheets.size(); s++) {
            sheets.add(s);
        }
        sheets.sort(Comparator.comparingInt((Integer s) -> -points(s)));
        int h = sheets.size() / 2;
        int difference = 0;
        for (int i = 0; i < h; i++) {
            difference += answer(sheets.get(i), question) == right(question) ? 1 : 0;
            difference -= answer(sheets.get(sheets.size() - 1 - i), question) == right(question) ? 1 : 0;
        }
        return h == 0 ? 0 : (float) difference / (float) h;
    }

    float mean() {
        int sum = 0;
        for (int s = 0; s < now.sheets.size(); s++) {
            sum += points(s);
        }
        return now.sheets.isEmpty() ? 0 : (float) sum / (float) now.sheets.size();
    }

    int sameWrong(int s, int t) {
        if (noSheet(s) || noSheet(t)) {
            return BAD;
        }
        int many = 0;
        for (int q = 0; q < now.questions.size(); q++) {
            int taken = answer(s, q);
            many += taken >= 0 && taken != right(q) && taken == answer(t, q) ? 1 : 0;
        }
        return many;
    }

    int suspects() {
        TreeMap<Integer, Integer> firstPairs = new TreeMap<>();
        for (int s = 0; s < now.sheets.size(); s++) {
            for (int t = s + 1; t < now.sheets.size(); t++) {
                firstPairs.merge(sameWrong(s, t), 100 * s + t, Math::min);
            }
        }
        return firstPairs.isEmpty() ? NONE : firstPairs.lastEntry().getValue();
    }

    int mistaken(int sheet, int version) {
        if (noSheet(sheet) || noVersion(version)) {
            return BAD;
        }
        List<Integer> marks = now.sheets.get(sheet).marks;
        List<Integer> keys = numbered(version).keys;
        int points = 0;
        for (int p = 0; p < marks.size(); p++) {
            points += marks.get(p) < 0 ? 0 : marks.get(p).equals(keys.get(p)) ? 4 : -1;
        }
        return points;
    }

    // ---- history

    int undo() {
        if (past.isEmpty()) {
            return NONE;
        }
        now = past.removeLast();
        return past.size();
    }

    long fingerprint() {
        List<Integer> all = new ArrayList<>();
        all.add(questions());
        for (List<Integer> numbers : now.questions) {
            all.addAll(numbers);
        }
        all.add(versions());
        for (int v = 0; v < versions(); v++) {
            addVersion(all, v);
        }
        all.add(now.sheets.size());
        for (int s = 0; s < now.sheets.size(); s++) {
            for (int what = 0; what <= 4; what++) {
                all.add(result(s, what));
            }
            for (int q = 0; q < questions(); q++) {
                all.add(answer(s, q));
            }
        }
        long print = 181;
        for (int number : all) {
            print = 31 * print + number;
        }
        return print;
    }

    private void addVersion(List<Integer> all, int version) {
        Version v = numbered(version);
        int place = 0;
        List<Integer> counts = pageCounts(v);
        for (int page = 0; page < counts.size(); page++) {
            int first = place;
            for (int i = 0; i < counts.get(page); i++) {
                all.add(v.order.get(place));
                all.add(v.keys.get(place));
                all.add(page);
                all.add(height(v, first, place));
                place++;
            }
        }
        all.add(counts.size());
    }
}
