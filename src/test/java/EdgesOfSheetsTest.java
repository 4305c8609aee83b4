import java.util.function.Supplier;

/**
 * The edges of promises 18 to 30 and of the description's SHEETS: a test for each sentence that names one.
 * Made.three() has the order 1, 2, 0 with 3, 4 and 2 choices at the places, and the key "BCA".
 * The lots before "modulo" that are used: seed 2147483647: 15929, 37177; seed -2147483648: 32768, 21468;
 * seed -1: 48697, 4409; seed 0: 0, 54236, 42756, 54885, 3498, 49695.
 */
public final class EdgesOfSheetsTest {
    private static final int BAD = TestVersions.BAD;
    private static final int FULL = TestVersions.FULL;
    private static final int NONE = TestVersions.NONE;
    private static final int MIN = Integer.MIN_VALUE;
    private static final int MAX = Integer.MAX_VALUE;
    private static final int[] NEVER = {-1, MIN, MAX};
    private static final String TWENTY_RIGHT = "AAAAAAAAAAAAAAAAAAAA";
    private static final String TWENTY_WRONG = "BBBBBBBBBBBBBBBBBBBB";
    private static final String TWENTY_NONE = "--------------------";

    private EdgesOfSheetsTest() {
    }

    public static void main(String[] args) {
        codesAre32To126();
        bufferHasTwentyCharacters();
        bufferIsEmptyAtFirst();
        clearOfNoneAndOfTwenty();
        sheetBesideTheRange();
        sheetBeyondTwenty();
        sheetWithSeveralErrors();
        bufferTooShort();
        bufferTooLong();
        lettersOfTheChoicesAlone();
        firstCharacterThatCannotStand();
        sheetOfNoAndOfTwentyQuestions();
        bufferIsEmptyAfterASheet();
        guessBesideTheRange();
        guessBeyondTwenty();
        skillIsZeroToTen();
        guessWithAnySeed();
        guessOfNoQuestions();
        forgetOfNoneAndOfTwenty();
        forgottenSheetsCountNowhere();
        resultBesideTheRange();
        pointsFromTheLeastToTheMost();
        ranksOfOneOfEqualOnesAndOfTwenty();
        answerBesideTheRange();
        answerOfNone();
        aboutBesideTheRange();
        aboutWithoutSheetsAndWithTwenty();
        wrongChoiceOfSeveral();
        partingBesideTheRange();
        partingOfFewSheets();
        partingFromTheLeastToTheMost();
        partingLeavesTheMiddleOut();
        meanOfNoneOneAndTwenty();
        sameWrongBesideTheRange();
        sameWrongOfNoneAndOfAll();
        suspectsOfFewSheets();
        suspectsOfSeveralPairs();
        mistakenBesideTheRange();
        mistakenFromTheLeastToTheMost();
        Check.end("EdgesOfSheetsTest");
    }

    private static Supplier<TestVersions> typed(Supplier<TestVersions> making, String text) {
        return () -> {
            TestVersions test = making.get();
            test.clear();
            Made.type(test, text);
            return test;
        };
    }

    private static TestVersions handed(String... sheets) {
        TestVersions test = Made.three();
        for (int s = 0; s < sheets.length; s++) {
            Check.due("20: sheet " + sheets[s], Made.hand(test, 0, sheets[s]), s);
        }
        return test;
    }

    private static TestVersions twentyWith(String... sheets) {
        TestVersions test = Made.questions(20);
        test.version(0);
        for (int s = 0; s < sheets.length; s++) {
            Check.due("20: sheet " + sheets[s], Made.hand(test, 0, sheets[s]), s);
        }
        return test;
    }

    // ---- promises 18 and 19

    private static void codesAre32To126() {
        for (int c : new int[] {31, 127, 0, -1, 32 - 65536, 126 + 65536, 65 + 256, MIN, MAX}) {
            Twins.dueUnchanged("18: type(" + c + ")", Made::empty, BAD, test -> test.type(c));
            Twins.dueUnchanged("18: type(" + c + ")", Made::threeWithSheets, BAD, test -> test.type(c));
            Twins.dueUnchanged("18: BAD before FULL", Made::fullBuffer, BAD, test -> test.type(c));
        }
        for (int c = 32; c <= 126; c++) {
            Check.due("18: type(" + c + ")", new TestVersions().type(c), 1);
        }
    }

    private static void bufferHasTwentyCharacters() {
        TestVersions test = new TestVersions();
        for (int i = 1; i <= 20; i++) {
            Check.due("18: character " + i, test.type(31 + i), i);
        }
        Check.due("18: character 21", test.type('A'), FULL);
        Check.due("18: character 21 again", test.type(126), FULL);
        Check.due("19: there are 20", test.clear(), 20);
        Twins.dueUnchanged("18: type('A') in a full buffer", Made::fullBuffer, FULL, full -> full.type('A'));
        Twins.dueUnchanged("18: type(32) in a full buffer", Made::full, FULL, full -> full.type(32));
    }

    private static void bufferIsEmptyAtFirst() {
        Check.due("18: the first character", new TestVersions().type('-'), 1);
        Check.due("19: clear()", new TestVersions().clear(), 0);
        TestVersions test = Made.three();
        Check.due("20: an empty buffer is too short at 0", test.sheet(0), -100);
    }

    private static void clearOfNoneAndOfTwenty() {
        Twins.dueUnchanged("19: clear() of none", Made::three, 0, TestVersions::clear);
        TestVersions test = Made.fullBuffer();
        Check.due("19: clear() of 20", test.clear(), 20);
        Check.due("19: clear() of none then", test.clear(), 0);
        Check.due("18: the first character again", test.type('A'), 1);
        Check.due("19: clear() of one", test.clear(), 1);
        Check.due("18, 19: they are no acts", test.undo(), 3);
        Check.due("18, 19: nothing to clear", test.clear(), 0);
    }

    // ---- promise 20

    private static void sheetBesideTheRange() {
        Check.due("20: without versions", Made.questions(3).sheet(0), BAD);
        for (int version : new int[] {-1, 1, 6, MIN, MAX}) {
            Twins.dueUnchanged("20: sheet(" + version + ")", typed(Made::three, "BCA"), BAD, test -> test.sheet(version));
        }
        TestVersions six = Made.sixVersions();
        Check.due("20: the last version", Made.hand(six, 5, "AAA"), 0);
        Made.type(six, "AAA");
        Check.due("20: no version 6", six.sheet(6), BAD);
    }

    private static void sheetBeyondTwenty() {
        TestVersions test = Made.three();
        for (int s = 0; s < 20; s++) {
            Check.due("20: sheet number " + s, Made.hand(test, 0, "BCA"), s);
        }
        Made.type(test, "BCA");
        Check.due("20: a 21st", test.sheet(0), FULL);
        Check.due("20: one less", test.undo(), 4);
        Check.due("20: the buffer stayed, so the 20th again", test.sheet(0), 19);
        Twins.dueUnchanged("20: a 21st with good answers", typed(Made::twentySheets, "BCA"), FULL, full -> full.sheet(0));
    }

    private static void sheetWithSeveralErrors() {
        Twins.dueUnchanged("20: BAD before FULL", typed(Made::twentySheets, "BCA"), BAD, test -> test.sheet(1));
        Twins.dueUnchanged("20: BAD before the error place", typed(Made::three, "B?"), BAD, test -> test.sheet(1));
        Twins.dueUnchanged("20: FULL before the error place", typed(Made::twentySheets, "B?"), FULL, test -> test.sheet(0));
        Twins.dueUnchanged("20: FULL before too short", typed(Made::twentySheets, ""), FULL, test -> test.sheet(0));
        Twins.dueUnchanged("20: BAD before all", typed(Made::twentySheets, "?"), BAD, test -> test.sheet(-1));
        Twins.dueUnchanged("20: when all is full", Made::full, FULL, test -> test.sheet(0));
        Twins.dueUnchanged("20: when all is full, no version 6", Made::full, BAD, test -> test.sheet(6));
    }

    private static void dueErrorPlace(String answers, int place) {
        Twins.dueUnchanged("20: sheet " + answers, typed(Made::three, answers), -100 - place, test -> test.sheet(0));
    }

    private static void bufferTooShort() {
        dueErrorPlace("", 0);
        dueErrorPlace("B", 1);
        dueErrorPlace("-", 1);
        dueErrorPlace("BC", 2);
        Check.due("20: just long enough", Made.hand(Made.three(), 0, "BCA"), 0);
        Check.due("20: 19 for 20", Made.hand(twentyWith(), 0, TWENTY_RIGHT.substring(1)), -119);
        Check.due("20: none for 20", twentyWith().sheet(0), -100);
    }

    private static void bufferTooLong() {
        dueErrorPlace("BCAA", 3);
        dueErrorPlace("BCA-", 3);
        dueErrorPlace("BCA?", 3);
        dueErrorPlace("BCA" + TWENTY_NONE.substring(3), 3);
        TestVersions nineteen = Made.questions(19);
        nineteen.version(0);
        Check.due("20: 20 for 19", Made.hand(nineteen, 0, TWENTY_RIGHT), -119);
        TestVersions one = Made.questions(1);
        one.version(0);
        Check.due("20: 20 for one", Made.hand(one, 0, TWENTY_RIGHT), -101);
    }

    /** At each place the last letter that its question has, and the one behind it; the signs beside the letters. */
    private static void lettersOfTheChoicesAlone() {
        int[] choices = {3, 4, 2};
        for (int place = 0; place < 3; place++) {
            for (int c = 32; c <= 126; c++) {
                StringBuilder answers = new StringBuilder("---");
                answers.setCharAt(place, (char) c);
                boolean stands = c == 45 || c >= 65 && c < 65 + choices[place];
                Check.due("20: code " + c + " at place " + place, Made.hand(Made.three(), 0, answers.toString()),
                        stands ? 0 : -100 - place);
            }
        }
        TestVersions five = new TestVersions();
        five.add(1, 5, 4, 31, 0);
        five.version(0);
        Check.due("20: F for five choices", Made.hand(five, 0, "F"), -100);
        five.clear();
        Check.due("20: E for five choices", Made.hand(five, 0, "E"), 0);
        Check.due("23: E is right", five.result(0, 1), 4);
    }

    private static void firstCharacterThatCannotStand() {
        dueErrorPlace("?", 0);
        dueErrorPlace("DEC", 0);
        dueErrorPlace("CEC", 1);
        dueErrorPlace("CDC", 2);
        dueErrorPlace("CDCC", 2);
        dueErrorPlace("?C", 0);
        dueErrorPlace("B?", 1);
        dueErrorPlace("?CAA", 0);
        dueErrorPlace("B??????????????????A", 1);
        // the error place is that of the version: 5 has the order 0 2 1
        Supplier<TestVersions> six = typed(Made::sixVersions, "CCC");
        Twins.dueUnchanged("20: CCC in the order 1 2 0", six, -102, test -> test.sheet(0));
        Twins.dueUnchanged("20: CCC in the order 0 2 1", six, -100, test -> test.sheet(5));
    }

    private static void sheetOfNoAndOfTwentyQuestions() {
        TestVersions none = new TestVersions();
        none.version(0);
        none.type('-');
        Check.due("20: a character for no questions", none.sheet(0), -100);
        none.clear();
        Check.due("20: no character for no questions", none.sheet(0), 0);
        Check.due("23: its points", none.result(0, 1), 0);
        Check.due("23: its rank", none.result(0, 4), 1);
        Check.due("24: it has no answers", none.answer(0, 0), BAD);
        Check.due("2: but it is a sheet", none.add(1, 2, 0, 0, 0), TestVersions.STATE);
        TestVersions twenty = twentyWith(TWENTY_RIGHT);
        Check.due("19: the buffer is empty then", twenty.clear(), 0);
        Check.due("24: the last answer", twenty.answer(0, 19), 0);
    }

    private static void bufferIsEmptyAfterASheet() {
        TestVersions test = handed("BCA");
        Check.due("20: the buffer is empty", test.sheet(0), -100);
        Check.due("18: the first character again", test.type('B'), 1);
        Check.due("20: with an error it stays", test.sheet(0), -101);
        Check.due("18: the second character", test.type('D'), 2);
        Check.due("18: the third character", test.type('-'), 3);
        Check.due("20: BD-", test.sheet(0), 1);
        Check.due("24: B", test.answer(1, 1), 1);
        Check.due("24: D", test.answer(1, 2), 3);
        Check.due("24: -", test.answer(1, 0), NONE);
    }

    // ---- promise 21

    private static void guessBesideTheRange() {
        Check.due("21: without versions", Made.questions(3).guess(0, 0, 0), BAD);
        for (int version : new int[] {-1, 1, 6, MIN, MAX}) {
            Twins.dueUnchanged("21: guess(" + version + ", 0, 5)", Made::threeWithSheets, BAD,
                    test -> test.guess(version, 0, 5));
            Twins.dueUnchanged("21: BAD before FULL", Made::twentySheets, BAD, test -> test.guess(version, 0, 5));
        }
        for (int skill : new int[] {-1, 11, MIN, MAX}) {
            Twins.dueUnchanged("21: guess(0, 0, " + skill + ")", Made::threeWithSheets, BAD,
                    test -> test.guess(0, 0, skill));
            Twins.dueUnchanged("21: BAD before FULL", Made::twentySheets, BAD, test -> test.guess(0, 0, skill));
            Twins.dueUnchanged("21: both are wrong", Made::twentySheets, BAD, test -> test.guess(1, 0, skill));
        }
        Check.due("21: the last version", Made.sixVersions().guess(5, 0, 10), 0);
        Check.due("21: behind it", Made.sixVersions().guess(6, 0, 10), BAD);
    }

    private static void guessBeyondTwenty() {
        TestVersions test = Made.three();
        for (int s = 0; s < 20; s++) {
            Check.due("21: guess number " + s, test.guess(0, s, 10), s);
        }
        Check.due("21: a 21st", test.guess(0, 0, 10), FULL);
        test.undo();
        Check.due("21: the 20th again", test.guess(0, 0, 10), 19);
        Twins.dueUnchanged("21: a 21st", Made::twentySheets, FULL, full -> full.guess(0, 0, 10));
        Twins.dueUnchanged("21: when all is full", Made::full, FULL, full -> full.guess(5, MIN, 0));
    }

    private static int guessedOfTwo(int right, int seed, int skill) {
        TestVersions test = new TestVersions();
        test.add(1, 2, right, 3, 0);
        test.version(0);
        Check.due("21: guess(0, " + seed + ", " + skill + ")", test.guess(0, seed, skill), 0);
        return test.answer(0, 0);
    }

    private static void skillIsZeroToTen() {
        // a lot of 15929 % 10 = 9: known with skill 10 alone; otherwise 37177 % 2 = 1
        Check.due("21: lot 9, skill 10", guessedOfTwo(0, MAX, 10), 0);
        Check.due("21: lot 9, skill 9", guessedOfTwo(0, MAX, 9), 1);
        Check.due("21: lot 9, skill 0", guessedOfTwo(0, MAX, 0), 1);
        // a lot of 0: known with skill 1, but not with skill 0; otherwise 54236 % 2 = 0
        Check.due("21: lot 0, skill 1", guessedOfTwo(1, 0, 1), 1);
        Check.due("21: lot 0, skill 0", guessedOfTwo(1, 0, 0), 0);
        // a lot of 32768 % 10 = 8; otherwise 21468 % 2 = 0
        Check.due("21: lot 8, skill 9", guessedOfTwo(1, MIN, 9), 1);
        Check.due("21: lot 8, skill 8", guessedOfTwo(1, MIN, 8), 0);
        TestVersions test = twentyWith();
        for (int s = 0; s < 10; s++) {
            test.guess(0, s * 1000, 10);
            Check.due("21: skill 10 knows all", test.result(s, 1), 80);
        }
    }

    /** As a short 48697 would be negative and known by any skill: 48697 % 10 = 7, otherwise 4409 % 2 = 1. */
    private static void guessWithAnySeed() {
        Check.due("21: seed -1, skill 8", guessedOfTwo(0, -1, 8), 0);
        Check.due("21: seed -1, skill 7", guessedOfTwo(0, -1, 7), 1);
        // seed 0, skill 0: lots 0, 54236 % 3 = 2, 42756, 54885 % 4 = 1, 3498, 49695 % 2 = 1, so "CBB"
        TestVersions test = Made.three();
        test.guess(0, 0, 0);
        Check.due("21: C for question 1", test.answer(0, 1), 2);
        Check.due("21: B for question 2", test.answer(0, 2), 1);
        Check.due("21: B for question 0", test.answer(0, 0), 1);
        for (int seed : new int[] {MIN, MAX, -1, 0, 1}) {
            Check.due("21: any seed", Made.three().guess(0, seed, 5), 0);
        }
    }

    private static void guessOfNoQuestions() {
        TestVersions test = new TestVersions();
        test.version(0);
        test.type('?');
        Check.due("21: no questions", test.guess(0, 0, 0), 0);
        Check.due("23: no points", test.result(0, 1), 0);
        Check.due("23: none right", test.result(0, 2), 0);
        Check.due("23: none wrong", test.result(0, 3), 0);
        Check.due("19: the buffer stays", test.clear(), 1);
        Check.due("21: it is an act", test.undo(), 1);
    }

    // ---- promise 22

    private static void forgetOfNoneAndOfTwenty() {
        TestVersions none = new TestVersions();
        Check.due("22: forget() of none", none.forget(), 0);
        Check.due("22: that is an act, too", none.undo(), 0);
        TestVersions test = Made.full();
        Check.due("22: forget() of 20", test.forget(), 20);
        Check.due("22: forget() of none then", test.forget(), 0);
        Check.due("23: there is no sheet 0", test.result(0, 0), BAD);
        Check.due("3: questions can be changed", test.remove(19), 19);
        Check.due("8: and versions", test.drop(), 5);
        Check.due("21: the next number is 0", test.guess(0, 0, 0), 0);
        Check.due("19: the buffer stays", test.clear(), 20);
        TestVersions one = Made.three();
        one.guess(0, 0, 0);
        Check.due("22: forget() of one", one.forget(), 1);
        one.undo();
        Check.due("2: undone, there is a sheet", one.add(1, 2, 0, 0, 0), TestVersions.STATE);
    }

    /** Of two sheets forgotten, or undone, nothing is left beside or in the one that comes then. */
    private static void forgottenSheetsCountNowhere() {
        TestVersions test = handed("ADB", "BCA");
        test.forget();
        Check.due("22: the next sheet is number 0", Made.hand(test, 0, "B--"), 0);
        Check.dueFloat("27: its points alone", test.mean(), 4f);
        Check.due("23: nobody has more points", test.result(0, 4), 1);
        Check.due("23: there is no sheet 1", test.result(1, 0), BAD);
        Check.due("24: no answer from before", test.answer(0, 0), NONE);
        dueAbout("25: of question 1", test, 1, 1, 0, 0, NONE);
        dueAbout("25: of question 2", test, 2, 0, 0, 1, NONE);
        Check.dueFloat("26: h is 0", test.parting(1), 0f);
        Check.due("29: one sheet alone", test.suspects(), NONE);
        Check.due("30: its points", test.mistaken(0, 0), 4);
        test.undo();
        Check.dueFloat("27: none is left", test.mean(), 0f);
        test.undo();
        Check.dueFloat("27: both are back", test.mean(), 4.5f);
        Check.due("23: with their ranks", test.result(0, 4), 2);
    }

    // ---- promise 23

    private static void resultBesideTheRange() {
        Check.due("23: without sheets", Made.three().result(0, 0), BAD);
        for (int b : NEVER) {
            Twins.dueUnchanged("23: result(" + b + ", 0)", Made::threeWithSheets, BAD, test -> test.result(b, 0));
            Twins.dueUnchanged("23: result(0, " + b + ")", Made::threeWithSheets, BAD, test -> test.result(0, b));
            Twins.dueUnchanged("23: result(" + b + ", " + b + ")", Made::threeWithSheets, BAD, test -> test.result(b, b));
        }
        Twins.dueUnchanged("23: result(2, 0)", Made::threeWithSheets, BAD, test -> test.result(2, 0));
        Twins.dueUnchanged("23: result(0, 5)", Made::threeWithSheets, BAD, test -> test.result(0, 5));
        Twins.dueUnchanged("23: result(1, 0)", Made::threeWithSheets, 0, test -> test.result(1, 0));
        Twins.dueUnchanged("23: result(1, 4)", Made::threeWithSheets, 2, test -> test.result(1, 4));
        Check.due("23: sheet 19 has version 1", Made.full().result(19, 0), 1);
        Check.due("23: no sheet 20", Made.full().result(20, 0), BAD);
    }

    private static void pointsFromTheLeastToTheMost() {
        TestVersions test = twentyWith(TWENTY_RIGHT, TWENTY_WRONG, TWENTY_NONE, "AAAABBBBBBBBBBBBBBBB", "ABBBB---------------");
        int[][] due = {{0, 80, 20, 0, 1}, {0, -20, 0, 20, 5}, {0, 0, 0, 0, 2}, {0, 0, 4, 16, 2}, {0, 0, 1, 4, 2}};
        for (int s = 0; s < due.length; s++) {
            for (int what = 0; what < 5; what++) {
                Check.due("23: result(" + s + ", " + what + ")", test.result(s, what), due[s][what]);
            }
        }
    }

    private static void ranksOfOneOfEqualOnesAndOfTwenty() {
        Check.due("23: the only one", handed("ADB").result(0, 4), 1);
        TestVersions equal = Made.three();
        for (int s = 0; s < 20; s++) {
            equal.guess(0, s, 10);
        }
        Check.due("23: the first of 20 equal ones", equal.result(0, 4), 1);
        Check.due("23: the last of 20 equal ones", equal.result(19, 4), 1);
        // points -20, -15, .. 75: a question more right with each sheet
        String[] sheets = new String[20];
        for (int s = 0; s < 20; s++) {
            sheets[s] = TWENTY_RIGHT.substring(0, s) + TWENTY_WRONG.substring(s);
        }
        TestVersions twenty = twentyWith(sheets);
        for (int s = 0; s < 20; s++) {
            Check.due("23: points of " + s, twenty.result(s, 1), 5 * s - 20);
            Check.due("23: rank of " + s, twenty.result(s, 4), 20 - s);
        }
    }

    // ---- promise 24

    private static void answerBesideTheRange() {
        Check.due("24: without sheets", Made.three().answer(0, 0), BAD);
        for (int b : NEVER) {
            Twins.dueUnchanged("24: answer(" + b + ", 0)", Made::threeWithSheets, BAD, test -> test.answer(b, 0));
            Twins.dueUnchanged("24: answer(0, " + b + ")", Made::threeWithSheets, BAD, test -> test.answer(0, b));
            Twins.dueUnchanged("24: answer(" + b + ", " + b + ")", Made::threeWithSheets, BAD, test -> test.answer(b, b));
        }
        Twins.dueUnchanged("24: answer(2, 0)", Made::threeWithSheets, BAD, test -> test.answer(2, 0));
        Twins.dueUnchanged("24: answer(0, 3)", Made::threeWithSheets, BAD, test -> test.answer(0, 3));
        Twins.dueUnchanged("24: answer(1, 2)", Made::threeWithSheets, 3, test -> test.answer(1, 2));
        Twins.dueUnchanged("24: answer(1, 0)", Made::threeWithSheets, NONE, test -> test.answer(1, 0));
        TestVersions twenty = Made.full();
        Check.due("24: no sheet 20", twenty.answer(20, 0), BAD);
        Check.due("24: no question 20", twenty.answer(19, 20), BAD);
    }

    private static void answerOfNone() {
        TestVersions test = handed("---", "--A", "B--", "CDB");
        for (int q = 0; q < 3; q++) {
            Check.due("24: no answer at all", test.answer(0, q), NONE);
        }
        Check.due("24: the last place alone", test.answer(1, 0), 0);
        Check.due("24: the first place alone", test.answer(2, 1), 1);
        int[] last = {1, 2, 3};
        for (int q = 0; q < 3; q++) {
            Check.due("24: the last choice of question " + q, test.answer(3, q), last[q]);
        }
    }

    // ---- promise 25

    private static void aboutBesideTheRange() {
        Check.due("25: without questions", Made.empty().about(0, 0), BAD);
        for (int b : NEVER) {
            Twins.dueUnchanged("25: about(" + b + ", 0)", Made::threeWithSheets, BAD, test -> test.about(b, 0));
            Twins.dueUnchanged("25: about(0, " + b + ")", Made::threeWithSheets, BAD, test -> test.about(0, b));
            Twins.dueUnchanged("25: about(" + b + ", " + b + ")", Made::threeWithSheets, BAD, test -> test.about(b, b));
        }
        Twins.dueUnchanged("25: about(3, 0)", Made::threeWithSheets, BAD, test -> test.about(3, 0));
        Twins.dueUnchanged("25: about(3, 3)", Made::threeWithSheets, BAD, test -> test.about(3, 3));
        Twins.dueUnchanged("25: about(0, 4)", Made::threeWithSheets, BAD, test -> test.about(0, 4));
        // the answers to question 2 are 2 and 3, of which 2 is right
        Twins.dueUnchanged("25: about(2, 0)", Made::threeWithSheets, 1, test -> test.about(2, 0));
        Twins.dueUnchanged("25: about(2, 1)", Made::threeWithSheets, 1, test -> test.about(2, 1));
        Twins.dueUnchanged("25: about(2, 2)", Made::threeWithSheets, 0, test -> test.about(2, 2));
        Twins.dueUnchanged("25: about(2, 3)", Made::threeWithSheets, 3, test -> test.about(2, 3));
        Check.due("25: no question 20", Made.full().about(20, 0), BAD);
    }

    private static void dueAbout(String name, TestVersions test, int question, int... due) {
        for (int what = 0; what < due.length; what++) {
            Check.due(name + ": about(" + question + ", " + what + ")", test.about(question, what), due[what]);
        }
    }

    private static void aboutWithoutSheetsAndWithTwenty() {
        String[] sheets = {"BCA", "ADB", "---"};
        int[][] twenty = {{20, 0, 0, NONE}, {0, 20, 0, 1}, {0, 0, 20, NONE}};
        dueAbout("25: without sheets", Made.three(), 0, 0, 0, 0, NONE);
        for (int kind = 0; kind < 3; kind++) {
            TestVersions test = Made.three();
            for (int s = 0; s < 20; s++) {
                Made.hand(test, 0, sheets[kind]);
            }
            dueAbout("25: 20 times " + sheets[kind], test, 0, twenty[kind]);
            test.forget();
            dueAbout("25: forgotten", test, 0, 0, 0, 0, NONE);
        }
    }

    /** Question 2 stands at place 1; 2 is right. */
    private static void wrongChoiceOfSeveral() {
        dueAbout("25: all right", handed("-C-", "-C-"), 2, 2, 0, 0, NONE);
        dueAbout("25: none answered", handed("---", "---"), 2, 0, 0, 2, NONE);
        dueAbout("25: one wrong choice", handed("-C-", "-D-", "-C-"), 2, 2, 1, 0, 3);
        dueAbout("25: 3 and 0 once each", handed("-D-", "-A-"), 2, 0, 2, 0, 0);
        dueAbout("25: 3 and 1 once each", handed("-D-", "-B-", "---"), 2, 0, 2, 1, 1);
        dueAbout("25: 3 twice, 0 once", handed("-D-", "-A-", "-D-"), 2, 0, 3, 0, 3);
        dueAbout("25: 0, 1 and 3 once each", handed("-D-", "-B-", "-A-", "-C-"), 2, 1, 3, 0, 0);
        dueAbout("25: none is taken more often than 1", handed("---", "---", "-B-"), 2, 0, 1, 2, 1);
    }

    // ---- promises 26 and 27

    private static void partingBesideTheRange() {
        for (int question : new int[] {-1, 3, 20, MIN, MAX}) {
            Twins.dueUnchanged("26: parting(" + question + ")", Made::threeWithSheets, -2,
                    test -> (long) test.parting(question));
            Check.dueFloat("26: parting(" + question + ") exactly", Made.threeWithSheets().parting(question), -2f);
            Check.dueFloat("26: without sheets, too", Made.three().parting(question), -2f);
            Check.dueFloat("26: with one sheet, too", handed("BCA").parting(question), -2f);
        }
        Check.dueFloat("26: without questions", Made.empty().parting(0), -2f);
        Check.dueFloat("26: no question 20", Made.full().parting(20), -2f);
        Twins.dueUnchanged("26: parting(2)", Made::threeWithSheets, 1, test -> (long) test.parting(2));
    }

    private static void partingOfFewSheets() {
        for (int q = 0; q < 3; q++) {
            Check.dueFloat("26: no sheets", Made.three().parting(q), 0f);
            Check.dueFloat("26: one sheet, all right", handed("BCA").parting(q), 0f);
            Check.dueFloat("26: one sheet, all wrong", handed("ADB").parting(q), 0f);
            Check.dueFloat("26: two sheets, the better one first", handed("BCA", "ADB").parting(q), 1f);
            Check.dueFloat("26: two sheets, the better one last", handed("ADB", "BCA").parting(q), 1f);
            Check.dueFloat("26: two sheets, all right", handed("BCA", "BCA").parting(q), 0f);
        }
    }

    private static void partingFromTheLeastToTheMost() {
        // 7 points without question 0, and 2 with question 0 alone
        Check.dueFloat("26: right in the worse one alone", handed("BCB", "ADA").parting(0), -1f);
        TestVersions test = Made.three();
        for (int s = 0; s < 20; s++) {
            Made.hand(test, 0, s % 2 == 0 ? "BCB" : "ADA");
        }
        Check.dueFloat("26: ten against ten", test.parting(0), -1f);
        Check.dueFloat("26: ten against ten", test.parting(1), 1f);
        // the place 0 is question 13's with the seed 0: right in a sheet of 1 right and 4 wrong, so of 0 points
        TestVersions zero = twentyWith("ABBBB---------------", TWENTY_WRONG);
        Check.due("23: 0 points", zero.result(0, 1), 0);
        Check.dueFloat("26: right in a sheet of 0 points", zero.parting(13), 1f);
        // points 12 12 7 4 4 0: of question 0 two are right against one, of question 1 three against one
        TestVersions six = handed("---", "--A", "BCA", "B--", "BCB", "BCA");
        Check.dueFloat("26: a third", six.parting(0), 1f / 3f);
        Check.dueFloat("26: two thirds, s 1 before s 3", six.parting(1), 2f / 3f);
        Check.dueFloat("26: three thirds", six.parting(2), 1f);
    }

    /** Of three sheets h is 1: the second one counts nowhere, and of equal ones the smaller number is before. */
    private static void partingLeavesTheMiddleOut() {
        TestVersions three = handed("--A", "BCA", "---");
        Check.dueFloat("26: 12 against 0", three.parting(0), 1f);
        Check.dueFloat("26: only the middle one is right", handed("BC-", "--A", "---").parting(0), 0f);
        TestVersions equal = handed("--A", "B--", "-C-");
        Check.dueFloat("26: the first of equal ones", equal.parting(0), 1f);
        Check.dueFloat("26: the middle of equal ones", equal.parting(1), 0f);
        Check.dueFloat("26: the last of equal ones", equal.parting(2), -1f);
    }

    private static void meanOfNoneOneAndTwenty() {
        Check.dueFloat("27: no sheets", Made.three().mean(), 0f);
        Check.dueFloat("27: one sheet", handed("BCA").mean(), 12f);
        Check.dueFloat("27: the least of one", handed("ADB").mean(), -3f);
        Check.dueFloat("27: -1, 0 and 0", handed("A--", "---", "---").mean(), -1f / 3f);
        Check.dueFloat("27: 12 and 7", handed("BCA", "BCB").mean(), 9.5f);
        Check.dueFloat("27: 12, 7 and 7", handed("BCA", "BCB", "BCB").mean(), 26f / 3f);
        TestVersions twenty = twentyWith();
        for (int s = 0; s < 20; s++) {
            twenty.guess(0, s, 10);
        }
        Check.dueFloat("27: 20 of 80 points", twenty.mean(), 80f);
        twenty.forget();
        Check.dueFloat("27: forgotten", twenty.mean(), 0f);
        Twins.dueUnchanged("27: mean()", Made::threeWithSheets, 5, test -> (long) test.mean());
    }

    // ---- promises 28 to 30

    private static void sameWrongBesideTheRange() {
        Check.due("28: without sheets", Made.three().sameWrong(0, 0), BAD);
        for (int b : new int[] {-1, 2, 20, MIN, MAX}) {
            Twins.dueUnchanged("28: sameWrong(" + b + ", 0)", Made::threeWithSheets, BAD, test -> test.sameWrong(b, 0));
            Twins.dueUnchanged("28: sameWrong(0, " + b + ")", Made::threeWithSheets, BAD, test -> test.sameWrong(0, b));
            Twins.dueUnchanged("28: sameWrong(" + b + ", " + b + ")", Made::threeWithSheets, BAD,
                    test -> test.sameWrong(b, b));
        }
        Twins.dueUnchanged("28: sameWrong(0, 1)", Made::threeWithSheets, 0, test -> test.sameWrong(0, 1));
        Check.due("28: no sheet 20", Made.full().sameWrong(19, 20), BAD);
    }

    private static void sameWrongOfNoneAndOfAll() {
        Check.due("28: the same right ones", handed("BCA", "BCA").sameWrong(0, 1), 0);
        Check.due("28: none and none", handed("---", "---").sameWrong(0, 1), 0);
        Check.due("28: wrong and none", handed("ADB", "---").sameWrong(0, 1), 0);
        Check.due("28: other wrong ones", handed("AA-", "CB-").sameWrong(0, 1), 0);
        Check.due("28: all the same wrong ones", handed("ADB", "ADB").sameWrong(0, 1), 3);
        Check.due("28: a sheet with itself", handed("ADB").sameWrong(0, 0), 3);
        Check.due("28: a sheet with one wrong with itself", handed("BD-").sameWrong(0, 0), 1);
        TestVersions twenty = twentyWith(TWENTY_WRONG, TWENTY_WRONG, TWENTY_WRONG, TWENTY_RIGHT);
        Check.due("28: 20 the same", twenty.sameWrong(1, 0), 20);
        Check.due("28: 20 the same in others", twenty.sameWrong(1, 2), 20);
        Check.due("28: 20 right ones", twenty.sameWrong(2, 3), 0);
        twenty.forget();
        twenty.remove(19);
        twenty.remove(0);
        for (int s = 0; s < 3; s++) {
            Made.hand(twenty, 0, TWENTY_WRONG.substring(2));
        }
        Check.due("28: 18 the same, two questions are gone", twenty.sameWrong(1, 2), 18);
        TestVersions none = new TestVersions();
        none.version(0);
        none.sheet(0);
        none.sheet(0);
        Check.due("28: without questions", none.sameWrong(0, 1), 0);
        Check.due("29: without questions", none.suspects(), 1);
    }

    private static void suspectsOfFewSheets() {
        Check.due("29: no sheets", Made.three().suspects(), NONE);
        Check.due("29: one sheet", handed("ADB").suspects(), NONE);
        Check.due("29: two sheets", handed("ADB", "ADB").suspects(), 1);
        Check.due("29: two sheets without a wrong choice", handed("BCA", "BCA").suspects(), 1);
        TestVersions test = handed("ADB", "ADB");
        test.undo();
        Check.due("29: one sheet again", test.suspects(), NONE);
        test.forget();
        Check.due("29: forgotten", test.suspects(), NONE);
        Twins.dueUnchanged("29: suspects()", Made::threeWithSheets, 1, TestVersions::suspects);
    }

    private static TestVersions twentySuspects(int s, int t) {
        TestVersions test = Made.three();
        for (int i = 0; i < 20; i++) {
            Made.hand(test, 0, i == s || i == t ? "A--" : "BCA");
        }
        return test;
    }

    private static void suspectsOfSeveralPairs() {
        Check.due("29: the first two of 20", twentySuspects(0, 1).suspects(), 1);
        Check.due("29: the first and the last", twentySuspects(0, 19).suspects(), 19);
        Check.due("29: 9 and 10", twentySuspects(9, 10).suspects(), 910);
        Check.due("29: the last two", twentySuspects(18, 19).suspects(), 1819);
        Check.due("29: 0 with 3 before 1 with 2", handed("A--", "-D-", "-D-", "A--").suspects(), 3);
        Check.due("29: 0 with 1 before 0 with 2", handed("A--", "A--", "A--").suspects(), 1);
        Check.due("29: 1 with 2, twice the same", handed("A--", "AD-", "AD-").suspects(), 102);
    }

    private static void mistakenBesideTheRange() {
        Check.due("30: without sheets", Made.three().mistaken(0, 0), BAD);
        for (int b : NEVER) {
            Twins.dueUnchanged("30: mistaken(" + b + ", 0)", Made::threeWithSheets, BAD, test -> test.mistaken(b, 0));
            Twins.dueUnchanged("30: mistaken(0, " + b + ")", Made::threeWithSheets, BAD, test -> test.mistaken(0, b));
            Twins.dueUnchanged("30: mistaken(" + b + ", " + b + ")", Made::threeWithSheets, BAD,
                    test -> test.mistaken(b, b));
        }
        Twins.dueUnchanged("30: mistaken(2, 0)", Made::threeWithSheets, BAD, test -> test.mistaken(2, 0));
        Twins.dueUnchanged("30: mistaken(0, 1)", Made::threeWithSheets, BAD, test -> test.mistaken(0, 1));
        Twins.dueUnchanged("30: mistaken(2, 1)", Made::threeWithSheets, BAD, test -> test.mistaken(2, 1));
        Twins.dueUnchanged("30: mistaken(1, 0)", Made::threeWithSheets, -2, test -> test.mistaken(1, 0));
        Check.due("30: no sheet 20", Made.full().mistaken(20, 5), BAD);
        Check.due("30: no version 6", Made.full().mistaken(19, 6), BAD);
    }

    /** All keys are 0 in each version of Made.twentyQuestions(). */
    private static void mistakenFromTheLeastToTheMost() {
        TestVersions test = Made.twentyQuestions();
        Made.hand(test, 0, TWENTY_RIGHT);
        Made.hand(test, 1, TWENTY_WRONG);
        Made.hand(test, 2, TWENTY_NONE);
        for (int version = 0; version < 6; version++) {
            Check.due("30: 20 right by version " + version, test.mistaken(0, version), 80);
            Check.due("30: 20 wrong by version " + version, test.mistaken(1, version), -20);
            Check.due("30: 20 times none by version " + version, test.mistaken(2, version), 0);
        }
        // a choice that the other version's question does not have is wrong: key 0 0 for orders 1 0 and 0 1
        TestVersions few = new TestVersions();
        few.add(1, 2, 0, 3, 0);
        few.add(1, 5, 0, 31, 0);
        few.version(0);
        few.version(5);
        Made.hand(few, 0, "EA");
        Check.due("30: E where there is no E", few.mistaken(0, 1), 3);
        TestVersions none = new TestVersions();
        none.version(0);
        none.version(1);
        none.sheet(0);
        Check.due("30: no questions", none.mistaken(0, 1), 0);
    }
}
