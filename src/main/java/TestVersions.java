/**
 * A test in several versions: questions with choices are mixed by seeds, laid out on pages,
 * and sheets of answers are graded by the key of their version.
 */
public final class TestVersions {
    public static final int BAD = -1001;
    public static final int STATE = -1002;
    public static final int FULL = -1003;
    public static final int NONE = -1009;

    private static final long NO_SEED = -4611686018427387905L;

    private static final int MOST_QUESTIONS = 20;
    private static final int MOST_CHOICES = 5;
    private static final int MOST_VERSIONS = 6;
    private static final int MOST_SHEETS = 20;
    private static final int MOST_TYPED = 20;
    private static final int MOST_STATES = 5;
    private static final int MOST_SEEDS = 40;
    private static final int LEAST_LINES = 9;
    private static final int MOST_LINES = 60;
    private static final int LINES_AT_FIRST = 30;

    private static final int HEIGHT = 0;
    private static final int RIGHT = 1;
    private static final int KEEPS = 2;
    private static final int GROUP = 3;
    private static final int CHOICES = 4;
    private static final int NUMBERS = 5;

    private static final int NO_ANSWER = -1;

    private final State now = new State();
    private final History history = new History();
    private final Mixer mixer = new Mixer();
    private final Paper[] papers = new Paper[MOST_VERSIONS];
    private final Paper candidate = new Paper();
    private final Lots guesses = new Lots();
    private final Row draft = new Row(MOST_QUESTIONS);
    private final Row typed = new Row(MOST_TYPED);
    private int typedCount;

    public TestVersions() {
        for (int v = 0; v < papers.length; v++) {
            papers[v] = new Paper();
        }
    }

    // ---- questions

    public int add(int height, int choices, int right, int keeps, int group) {
        if (choices < 2 || choices > MOST_CHOICES
                || !Questions.allows(HEIGHT, height, choices)
                || !Questions.allows(RIGHT, right, choices)
                || !Questions.allows(KEEPS, keeps, choices)
                || !Questions.allows(GROUP, group, choices)) {
            return BAD;
        }
        if (now.sheets.count > 0) {
            return STATE;
        }
        if (now.questions.count >= MOST_QUESTIONS) {
            return FULL;
        }
        beginChange();
        return now.questions.append(height, choices, right, keeps, group);
    }

    public int remove(int question) {
        if (!now.questions.has(question)) {
            return BAD;
        }
        if (now.sheets.count > 0) {
            return STATE;
        }
        beginChange();
        now.questions.delete(question);
        return now.questions.count;
    }

    public int change(int question, int what, int value) {
        if (!now.questions.has(question)
                || !Questions.allows(what, value, now.questions.number(question, CHOICES))) {
            return BAD;
        }
        if (now.sheets.count > 0) {
            return STATE;
        }
        beginChange();
        int previous = now.questions.number(question, what);
        now.questions.put(question, what, value);
        return previous;
    }

    public int question(int question, int what) {
        if (!now.questions.has(question) || what < 0 || what >= NUMBERS) {
            return BAD;
        }
        return now.questions.number(question, what);
    }

    public int questions() {
        return now.questions.count;
    }

    // ---- versions

    public int version(int seed) {
        if (now.sheets.count > 0) {
            return STATE;
        }
        if (now.versionCount >= MOST_VERSIONS) {
            return FULL;
        }
        beginChange();
        int version = now.versionCount;
        now.seeds.set(version, seed);
        now.versionCount++;
        return version;
    }

    public long drop() {
        if (now.sheets.count > 0 || now.versionCount == 0) {
            return STATE;
        }
        beginChange();
        now.versionCount--;
        return now.seeds.get(now.versionCount);
    }

    public int versions() {
        return now.versionCount;
    }

    public int at(int version, int place, int what) {
        Paper paper = paperOf(version);
        if (paper == null || !paper.hasPlace(place) || what < 0 || what > 3) {
            return BAD;
        }
        return paper.number(place, what);
    }

    public int where(int version, int question) {
        Paper paper = paperOf(version);
        if (paper == null || !now.questions.has(question)) {
            return BAD;
        }
        return paper.places.get(question);
    }

    public int choice(int version, int place, int k) {
        Paper paper = paperOf(version);
        if (paper == null || !paper.hasPlace(place) || k < 0 || k >= choicesAt(paper, place)) {
            return BAD;
        }
        return paper.choiceAt(place, k);
    }

    public int alike(int v, int w, int what) {
        Paper first = paperOf(v);
        Paper second = paperOf(w);
        if (first == null || second == null) {
            return BAD;
        }
        switch (what) {
            case 0:
                return first.order.countSame(second.order, first.count);
            case 1:
                return first.keys.countSame(second.keys, first.count);
            case 2:
                return first.neighborsIn(second);
            default:
                return BAD;
        }
    }

    public long unlike(int from, int many) {
        if (many < 1 || many > MOST_SEEDS) {
            return NO_SEED;
        }
        int best = from;
        int least = MOST_QUESTIONS + 1;
        for (int i = 0; i < many; i++) {
            int most = mostSameKeys(from + i);
            if (most < least) {
                least = most;
                best = from + i;
            }
        }
        return best;
    }

    // ---- pages

    public int setLines(int lines) {
        if (lines < LEAST_LINES || lines > MOST_LINES) {
            return BAD;
        }
        beginChange();
        int previous = now.lines;
        now.lines = lines;
        return previous;
    }

    public int pages(int version) {
        Paper paper = paperOf(version);
        return paper == null ? BAD : paper.layout.pageCount;
    }

    public int page(int version, int page, int what) {
        Paper paper = paperOf(version);
        if (paper == null || page < 0 || page >= paper.layout.pageCount || what < 0 || what > 1) {
            return BAD;
        }
        return what == 0 ? paper.layout.pageCounts.get(page) : paper.layout.pageHeights.get(page);
    }

    // ---- sheets

    public int type(int c) {
        if (c < 32 || c > 126) {
            return BAD;
        }
        if (typedCount >= MOST_TYPED) {
            return FULL;
        }
        typed.set(typedCount, c);
        typedCount++;
        return typedCount;
    }

    public int clear() {
        int had = typedCount;
        typedCount = 0;
        return had;
    }

    public int sheet(int version) {
        Paper paper = paperOf(version);
        if (paper == null) {
            return BAD;
        }
        if (now.sheets.count >= MOST_SHEETS) {
            return FULL;
        }
        int good = readTyped(paper);
        if (good < paper.count || good < typedCount) {
            return -100 - good;
        }
        typedCount = 0;
        return handIn(version, paper);
    }

    public int guess(int version, int seed, int skill) {
        Paper paper = paperOf(version);
        if (paper == null || skill < 0 || skill > 10) {
            return BAD;
        }
        if (now.sheets.count >= MOST_SHEETS) {
            return FULL;
        }
        guesses.begin(seed);
        for (int p = 0; p < paper.count; p++) {
            boolean knows = guesses.next(10) < skill;
            draft.set(p, knows ? paper.keys.get(p) : guesses.next(choicesAt(paper, p)));
        }
        return handIn(version, paper);
    }

    public int forget() {
        history.keep(now);
        int had = now.sheets.count;
        now.sheets.count = 0;
        return had;
    }

    public int result(int sheet, int what) {
        if (!now.sheets.has(sheet) || what < 0 || what > 4) {
            return BAD;
        }
        return now.sheets.number(sheet, what);
    }

    public int answer(int sheet, int question) {
        if (!now.sheets.has(sheet) || !now.questions.has(question)) {
            return BAD;
        }
        int pick = now.sheets.pick(sheet, question);
        return pick == NO_ANSWER ? NONE : pick;
    }

    public int about(int question, int what) {
        if (!now.questions.has(question)) {
            return BAD;
        }
        int right = now.questions.number(question, RIGHT);
        int rightly = now.sheets.pickers(question, right);
        int silent = now.sheets.pickers(question, NO_ANSWER);
        switch (what) {
            case 0:
                return rightly;
            case 1:
                return now.sheets.count - rightly - silent;
            case 2:
                return silent;
            case 3:
                return favoriteWrong(question, right);
            default:
                return BAD;
        }
    }

    public float parting(int question) {
        if (!now.questions.has(question)) {
            return -2f;
        }
        int half = now.sheets.count / 2;
        if (half == 0) {
            return 0f;
        }
        int right = now.questions.number(question, RIGHT);
        int difference = 0;
        for (int s = 0; s < now.sheets.count; s++) {
            if (now.sheets.pick(s, question) == right) {
                int standing = now.sheets.standing(s);
                difference += standing < half ? 1 : 0;
                difference -= standing >= now.sheets.count - half ? 1 : 0;
            }
        }
        return (float) difference / (float) half;
    }

    public float mean() {
        if (now.sheets.count <= 0) {
            return 0f;
        }
        int sum = 0;
        for (int s = 0; s < now.sheets.count; s++) {
            sum += now.sheets.points(s);
        }
        return (float) sum / (float) now.sheets.count;
    }

    public int sameWrong(int s, int t) {
        if (!now.sheets.has(s) || !now.sheets.has(t)) {
            return BAD;
        }
        return countSameWrong(s, t);
    }

    public int suspects() {
        int pair = NONE;
        int most = -1;
        for (int s = 0; s < now.sheets.count; s++) {
            for (int t = s + 1; t < now.sheets.count; t++) {
                int same = countSameWrong(s, t);
                if (same > most) {
                    most = same;
                    pair = 100 * s + t;
                }
            }
        }
        return pair;
    }

    public int mistaken(int sheet, int version) {
        Paper paper = paperOf(version);
        if (paper == null || !now.sheets.has(sheet)) {
            return BAD;
        }
        int points = 0;
        for (int p = 0; p < paper.count; p++) {
            int mark = now.sheets.mark(sheet, p);
            if (mark == paper.keys.get(p)) {
                points += 4;
            } else if (mark != NO_ANSWER) {
                points--;
            }
        }
        return points;
    }

    // ---- history

    public int undo() {
        if (history.count <= 0) {
            return NONE;
        }
        history.restore(now);
        outdatePapers();
        return history.count;
    }

    public long fingerprint() {
        long print = 181;
        print = printQuestions(print);
        print = printVersions(print);
        return printSheets(print);
    }

    // ---- helpers of the face

    /** Every act that can alter a paper begins here; papers are then made anew when they are read. */
    private void beginChange() {
        history.keep(now);
        outdatePapers();
    }

    private void outdatePapers() {
        for (int v = 0; v < papers.length; v++) {
            Paper paper = papers[v];
            if (paper != null) {
                paper.upToDate = false;
            }
        }
    }

    /** The paper of a version as the questions are now, or null if there is no such version. */
    private Paper paperOf(int version) {
        if (version < 0 || version >= now.versionCount || version >= papers.length) {
            return null;
        }
        Paper paper = papers[version];
        if (paper != null && !paper.upToDate) {
            mixer.mix(now.questions, now.seeds.get(version), paper);
            paper.layout.lay(now.questions, paper, now.lines);
            paper.upToDate = true;
        }
        return paper;
    }

    private int choicesAt(Paper paper, int place) {
        return now.questions.number(paper.order.get(place), CHOICES);
    }

    private int mostSameKeys(int seed) {
        mixer.mix(now.questions, seed, candidate);
        int most = 0;
        for (int v = 0; v < now.versionCount; v++) {
            Paper paper = paperOf(v);
            if (paper != null) {
                most = Math.max(most, paper.keys.countSame(candidate.keys, candidate.count));
            }
        }
        return most;
    }

    /** Reads the buffer into the draft up to the first error and tells how many characters are good. */
    private int readTyped(Paper paper) {
        int good = 0;
        while (good < typedCount && good < paper.count) {
            int mark = markOf(typed.get(good), choicesAt(paper, good));
            if (mark == BAD) {
                return good;
            }
            draft.set(good, mark);
            good++;
        }
        return good;
    }

    private static int markOf(int c, int choices) {
        if (c == '-') {
            return NO_ANSWER;
        }
        return c >= 'A' && c < 'A' + choices ? c - 'A' : BAD;
    }

    private int handIn(int version, Paper paper) {
        history.keep(now);
        return now.sheets.append(version, paper, draft);
    }

    private int favoriteWrong(int question, int right) {
        int favorite = NONE;
        int most = 0;
        for (int c = 0; c < now.questions.number(question, CHOICES); c++) {
            int pickers = now.sheets.pickers(question, c);
            if (c != right && pickers > most) {
                most = pickers;
                favorite = c;
            }
        }
        return favorite;
    }

    private int countSameWrong(int s, int t) {
        int same = 0;
        for (int q = 0; q < now.questions.count; q++) {
            int pick = now.sheets.pick(s, q);
            if (pick != NO_ANSWER && pick == now.sheets.pick(t, q)
                    && pick != now.questions.number(q, RIGHT)) {
                same++;
            }
        }
        return same;
    }

    private long printQuestions(long before) {
        long print = 31 * before + now.questions.count;
        for (int q = 0; q < now.questions.count; q++) {
            for (int what = 0; what < NUMBERS; what++) {
                print = 31 * print + now.questions.number(q, what);
            }
        }
        return print;
    }

    private long printVersions(long before) {
        long print = 31 * before + now.versionCount;
        for (int v = 0; v < now.versionCount; v++) {
            Paper paper = paperOf(v);
            if (paper != null) {
                for (int p = 0; p < paper.count; p++) {
                    for (int what = 0; what <= 3; what++) {
                        print = 31 * print + paper.number(p, what);
                    }
                }
                print = 31 * print + paper.layout.pageCount;
            }
        }
        return print;
    }

    private long printSheets(long before) {
        long print = 31 * before + now.sheets.count;
        for (int s = 0; s < now.sheets.count; s++) {
            for (int what = 0; what <= 4; what++) {
                print = 31 * print + now.sheets.number(s, what);
            }
            for (int q = 0; q < now.questions.count; q++) {
                int pick = now.sheets.pick(s, q);
                print = 31 * print + (pick == NO_ANSWER ? NONE : pick);
            }
        }
        return print;
    }

    /** The machine must never throw: no array of numbers is used but in here, where each index is looked at. */
    private static final class Row {
        private final int[] cells;

        Row(int length) {
            cells = new int[length > 0 ? length : 0];
        }

        int get(int i) {
            return i >= 0 && i < cells.length ? cells[i] : 0;
        }

        void set(int i, int value) {
            if (i >= 0 && i < cells.length) {
                cells[i] = value;
            }
        }

        void exchange(int i, int j) {
            if (i >= 0 && i < cells.length && j >= 0 && j < cells.length) {
                int held = cells[i];
                cells[i] = cells[j];
                cells[j] = held;
            }
        }

        void copy(Row other) {
            System.arraycopy(other.cells, 0, cells, 0, Math.min(other.cells.length, cells.length));
        }

        int countSame(Row other, int length) {
            int same = 0;
            for (int i = 0; i < length; i++) {
                if (get(i) == other.get(i)) {
                    same++;
                }
            }
            return same;
        }
    }

    /** The lots that follow from a seed. */
    private static final class Lots {
        private int x;

        void begin(int seed) {
            x = seed;
        }

        int next(int many) {
            x = 1103515245 * x + 12345;
            return many > 0 ? (x >>> 16) % many : 0;
        }

        void mix(Row row, int many) {
            for (int i = many - 1; i >= 1; i--) {
                row.exchange(i, next(i + 1));
            }
        }
    }

    private static final class Questions {
        private final Row numbers = new Row(MOST_QUESTIONS * NUMBERS);
        private int count;

        /** The number of choices is not among these: it cannot be changed. */
        static boolean allows(int what, int value, int choices) {
            switch (what) {
                case HEIGHT:
                    return value >= 1 && value <= 9;
                case RIGHT:
                    return value >= 0 && value < choices;
                case KEEPS:
                    return value >= 0 && value < 1 << choices;
                case GROUP:
                    return value >= 0 && value <= 5;
                default:
                    return false;
            }
        }

        boolean has(int question) {
            return question >= 0 && question < count;
        }

        int number(int question, int what) {
            return numbers.get(question * NUMBERS + what);
        }

        void put(int question, int what, int value) {
            numbers.set(question * NUMBERS + what, value);
        }

        int append(int height, int choices, int right, int keeps, int group) {
            int question = count;
            count++;
            put(question, HEIGHT, height);
            put(question, RIGHT, right);
            put(question, KEEPS, keeps);
            put(question, GROUP, group);
            put(question, CHOICES, choices);
            return question;
        }

        void delete(int question) {
            count--;
            for (int q = question; q < count; q++) {
                for (int what = 0; what < NUMBERS; what++) {
                    put(q, what, number(q + 1, what));
                }
            }
        }

        boolean together(int q, int r) {
            return q == r || number(q, GROUP) != 0 && number(q, GROUP) == number(r, GROUP);
        }

        boolean isFirstOfUnit(int question) {
            int group = number(question, GROUP);
            if (group == 0) {
                return true;
            }
            for (int q = 0; q < question; q++) {
                if (number(q, GROUP) == group) {
                    return false;
                }
            }
            return true;
        }

        void copy(Questions other) {
            numbers.copy(other.numbers);
            count = other.count;
        }
    }

    /** A version as it is printed: its questions and choices in their places, its key and its pages. */
    private static final class Paper {
        private final Row order = new Row(MOST_QUESTIONS);
        private final Row places = new Row(MOST_QUESTIONS);
        private final Row keys = new Row(MOST_QUESTIONS);
        private final Row choices = new Row(MOST_QUESTIONS * MOST_CHOICES);
        private final Layout layout = new Layout();
        private int count;
        private boolean upToDate;

        boolean hasPlace(int place) {
            return place >= 0 && place < count;
        }

        void append(int question) {
            order.set(count, question);
            places.set(question, count);
            count++;
        }

        int choiceAt(int place, int k) {
            return choices.get(place * MOST_CHOICES + k);
        }

        void putChoice(int place, int k, int choice) {
            choices.set(place * MOST_CHOICES + k, choice);
        }

        int number(int place, int what) {
            switch (what) {
                case 0:
                    return order.get(place);
                case 1:
                    return keys.get(place);
                case 2:
                    return layout.pageOf.get(place);
                default:
                    return layout.lineOf.get(place);
            }
        }

        int neighborsIn(Paper other) {
            int many = 0;
            for (int p = 1; p < count; p++) {
                int before = other.places.get(order.get(p - 1));
                if (other.places.get(order.get(p)) == before + 1) {
                    many++;
                }
            }
            return many;
        }
    }

    /** Mixes papers; it holds the rows that are mixed, so that a mix makes nothing new. */
    private static final class Mixer {
        private final Lots lots = new Lots();
        private final Row units = new Row(MOST_QUESTIONS);
        private final Row members = new Row(MOST_QUESTIONS);
        private final Row loose = new Row(MOST_CHOICES);

        void mix(Questions questions, int seed, Paper paper) {
            lots.begin(seed);
            int unitCount = listUnits(questions);
            lots.mix(units, unitCount);
            paper.count = 0;
            for (int u = 0; u < unitCount; u++) {
                mixUnit(questions, units.get(u), paper);
            }
            for (int p = 0; p < paper.count; p++) {
                mixChoices(questions, p, paper);
            }
        }

        private int listUnits(Questions questions) {
            int many = 0;
            for (int q = 0; q < questions.count; q++) {
                if (questions.isFirstOfUnit(q)) {
                    units.set(many, q);
                    many++;
                }
            }
            return many;
        }

        private void mixUnit(Questions questions, int first, Paper paper) {
            int many = 0;
            for (int q = first; q < questions.count; q++) {
                if (questions.together(first, q)) {
                    members.set(many, q);
                    many++;
                }
            }
            lots.mix(members, many);
            for (int m = 0; m < many; m++) {
                paper.append(members.get(m));
            }
        }

        private void mixChoices(Questions questions, int place, Paper paper) {
            int question = paper.order.get(place);
            int choices = questions.number(question, CHOICES);
            int keeps = questions.number(question, KEEPS);
            lots.mix(loose, listLoose(choices, keeps));
            int next = 0;
            for (int k = 0; k < choices; k++) {
                int choice = k;
                if ((keeps >> k & 1) == 0) {
                    choice = loose.get(next);
                    next++;
                }
                paper.putChoice(place, k, choice);
                if (choice == questions.number(question, RIGHT)) {
                    paper.keys.set(place, k);
                }
            }
        }

        private int listLoose(int choices, int keeps) {
            int many = 0;
            for (int c = 0; c < choices; c++) {
                if ((keeps >> c & 1) == 0) {
                    loose.set(many, c);
                    many++;
                }
            }
            return many;
        }
    }

    /** How the questions of a paper stand on pages. */
    private static final class Layout {
        private final Row heights = new Row(MOST_QUESTIONS);
        private final Row pageOf = new Row(MOST_QUESTIONS);
        private final Row lineOf = new Row(MOST_QUESTIONS);
        private final Row pageCounts = new Row(MOST_QUESTIONS);
        private final Row pageHeights = new Row(MOST_QUESTIONS);
        private int placeCount;
        private int pageCount;

        void lay(Questions questions, Paper paper, int lines) {
            placeCount = paper.count;
            for (int p = 0; p < placeCount; p++) {
                heights.set(p, questions.number(paper.order.get(p), HEIGHT));
            }
            pageCount = pagesFrom(0, lines);
            int limit = lowestLimit(lines);
            int start = 0;
            for (int page = 0; page < pageCount; page++) {
                int end = earliestEnd(start, pageCount - page - 1, limit);
                fill(page, start, end);
                start = end;
            }
        }

        /** The fewest pages, as each one takes all that it can hold; no question may be higher than the limit. */
        private int pagesFrom(int start, int limit) {
            int many = 0;
            int room = 0;
            for (int p = start; p < placeCount; p++) {
                int height = heights.get(p);
                if (height > room) {
                    many++;
                    room = limit;
                }
                room -= height;
            }
            return many;
        }

        /** No question is cut, so the highest one is the least limit; P is one at which the pages are no more. */
        private int lowestLimit(int lines) {
            int limit = 0;
            for (int p = 0; p < placeCount; p++) {
                limit = Math.max(limit, heights.get(p));
            }
            while (limit < lines && pagesFrom(0, limit) > pageCount) {
                limit++;
            }
            return limit;
        }

        /** The pages are as few as can be, so none is empty, and the last one ends with the last question. */
        private int earliestEnd(int start, int pagesLeft, int limit) {
            int end = start + 1;
            while (end < placeCount && pagesFrom(end, limit) > pagesLeft) {
                end++;
            }
            return end;
        }

        private void fill(int page, int start, int end) {
            int line = 0;
            for (int p = start; p < end; p++) {
                pageOf.set(p, page);
                lineOf.set(p, line);
                line += heights.get(p);
            }
            pageCounts.set(page, end - start);
            pageHeights.set(page, line);
        }
    }

    /** The sheets, graded when they are handed in: as long as they are kept, no key can change. */
    private static final class Sheets {
        private final Row versions = new Row(MOST_SHEETS);
        private final Row rights = new Row(MOST_SHEETS);
        private final Row wrongs = new Row(MOST_SHEETS);
        private final Row marks = new Row(MOST_SHEETS * MOST_QUESTIONS);
        private final Row picks = new Row(MOST_SHEETS * MOST_QUESTIONS);
        private int count;

        boolean has(int sheet) {
            return sheet >= 0 && sheet < count;
        }

        /** The place that was marked at a place of the version. */
        int mark(int sheet, int place) {
            return marks.get(sheet * MOST_QUESTIONS + place);
        }

        /** The choice that was taken for a question. */
        int pick(int sheet, int question) {
            return picks.get(sheet * MOST_QUESTIONS + question);
        }

        int append(int version, Paper paper, Row answers) {
            int sheet = count;
            int rightly = 0;
            int wrongly = 0;
            for (int p = 0; p < paper.count; p++) {
                int mark = answers.get(p);
                int pick = mark == NO_ANSWER ? NO_ANSWER : paper.choiceAt(p, mark);
                marks.set(sheet * MOST_QUESTIONS + p, mark);
                picks.set(sheet * MOST_QUESTIONS + paper.order.get(p), pick);
                if (mark == paper.keys.get(p)) {
                    rightly++;
                } else if (mark != NO_ANSWER) {
                    wrongly++;
                }
            }
            versions.set(sheet, version);
            rights.set(sheet, rightly);
            wrongs.set(sheet, wrongly);
            count++;
            return sheet;
        }

        int points(int sheet) {
            return 4 * rights.get(sheet) - wrongs.get(sheet);
        }

        int number(int sheet, int what) {
            switch (what) {
                case 0:
                    return versions.get(sheet);
                case 1:
                    return points(sheet);
                case 2:
                    return rights.get(sheet);
                case 3:
                    return wrongs.get(sheet);
                default:
                    return 1 + betterThan(sheet);
            }
        }

        private int betterThan(int sheet) {
            int points = points(sheet);
            int many = 0;
            for (int s = 0; s < count; s++) {
                if (points(s) > points) {
                    many++;
                }
            }
            return many;
        }

        /** The index of a sheet among all, the greatest points first, of equal ones by numbers. */
        int standing(int sheet) {
            int points = points(sheet);
            int before = betterThan(sheet);
            for (int s = 0; s < sheet; s++) {
                if (points(s) == points) {
                    before++;
                }
            }
            return before;
        }

        int pickers(int question, int pick) {
            int many = 0;
            for (int s = 0; s < count; s++) {
                if (pick(s, question) == pick) {
                    many++;
                }
            }
            return many;
        }

        void copy(Sheets other) {
            versions.copy(other.versions);
            rights.copy(other.rights);
            wrongs.copy(other.wrongs);
            marks.copy(other.marks);
            picks.copy(other.picks);
            count = other.count;
        }
    }

    /** All that the history keeps; papers follow from it. */
    private static final class State {
        private final Questions questions = new Questions();
        private final Row seeds = new Row(MOST_VERSIONS);
        private final Sheets sheets = new Sheets();
        private int versionCount;
        private int lines = LINES_AT_FIRST;

        void copy(State other) {
            questions.copy(other.questions);
            seeds.copy(other.seeds);
            sheets.copy(other.sheets);
            versionCount = other.versionCount;
            lines = other.lines;
        }
    }

    /** The states before the latest acts, in a ring that is made once. */
    private static final class History {
        private final State[] states = new State[MOST_STATES];
        private int oldest;
        private int count;

        History() {
            for (int i = 0; i < states.length; i++) {
                states[i] = new State();
            }
        }

        void keep(State state) {
            if (count == MOST_STATES) {
                oldest = (oldest + 1) % MOST_STATES;
                count--;
            }
            State free = stateAt(count);
            if (free != null) {
                free.copy(state);
                count++;
            }
        }

        void restore(State state) {
            State latest = stateAt(count - 1);
            if (latest != null) {
                state.copy(latest);
                count--;
            }
        }

        private State stateAt(int i) {
            int slot = (oldest + i) % MOST_STATES;
            return slot >= 0 && slot < states.length ? states[slot] : null;
        }
    }
}
