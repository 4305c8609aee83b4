/**
 * Promises 18 to 30. Most runs use three questions whose choices keep their places, in the order
 * 1, 2, 0 that the seed 0 gives, so that the key is "BCA".
 */
public final class SheetsTest {
    private static final int BAD = TestVersions.BAD;
    private static final int FULL = TestVersions.FULL;
    private static final int NONE = TestVersions.NONE;

    private SheetsTest() {
    }

    public static void main(String[] args) {
        typeAndClear();
        sheetTakesTheBuffer();
        sheetTellsTheErrorPlace();
        sheetRefuses();
        everyLetterOfEveryQuestion();
        guessFollowsItsLots();
        guessRefuses();
        forgetDropsAll();
        forgottenSheetsComeBackWhole();
        resultsOfFive();
        answersOfFive();
        aboutFive();
        partingAndMean();
        sameWrongAndSuspects();
        wrongChoicesAreComparedByQuestions();
        mistakenVersion();
        errorsOfReads();
        Check.end("SheetsTest");
    }

    private static TestVersions three() {
        TestVersions test = new TestVersions();
        test.add(2, 2, 0, 3, 0);
        test.add(3, 3, 1, 7, 0);
        test.add(4, 4, 2, 15, 0);
        test.version(0);
        return test;
    }

    private static int hand(TestVersions test, int version, String answers) {
        for (int i = 0; i < answers.length(); i++) {
            test.type(answers.charAt(i));
        }
        return test.sheet(version);
    }

    private static TestVersions five() {
        TestVersions test = three();
        String[] answers = {"BCA", "BDA", "ADB", "-D-", "B--"};
        for (int s = 0; s < answers.length; s++) {
            Check.due("20: sheet " + answers[s], hand(test, 0, answers[s]), s);
        }
        return test;
    }

    private static void typeAndClear() {
        TestVersions test = new TestVersions();
        Check.due("19: clear() of nothing", test.clear(), 0);
        Check.due("18: type(32)", test.type(32), 1);
        Check.due("18: type(126)", test.type(126), 2);
        for (int c : new int[] {31, 127, -1, 0, 65536 + 65, Integer.MAX_VALUE, Integer.MIN_VALUE}) {
            Check.due("18: type(" + c + ")", test.type(c), BAD);
        }
        for (int i = 3; i <= 20; i++) {
            Check.due("18: type number " + i, test.type('A'), i);
        }
        Check.due("18: a 21st", test.type('A'), FULL);
        Check.due("18: BAD before FULL", test.type(31), BAD);
        Check.due("19: clear()", test.clear(), 20);
        Check.due("19: clear() again", test.clear(), 0);
        Check.due("18: from the start again", test.type('A'), 1);
        Check.due("18, 19: no acts", test.undo(), NONE);
        Check.due("18: undo leaves the buffer", test.clear(), 1);
    }

    private static void sheetTakesTheBuffer() {
        TestVersions test = three();
        Check.due("20: all right", hand(test, 0, "BCA"), 0);
        Check.due("20: the buffer is empty then", test.clear(), 0);
        Check.due("23: points", test.result(0, 1), 12);
        Check.due("20: none at all", hand(test, 0, "---"), 1);
        Check.due("23: points", test.result(1, 1), 0);
        test.type('B');
        Check.due("20: it is an act", test.undo(), 4);
        Check.due("20: undone", test.result(1, 1), BAD);
        Check.due("20: undo leaves the buffer", test.clear(), 1);
        Check.due("20: the number is free again", hand(test, 0, "BAA"), 1);
        Check.due("23: points", test.result(1, 1), 7);
    }

    private static void dueError(String answers, int place) {
        TestVersions test = three();
        Check.due("20: sheet " + answers, hand(test, 0, answers), -100 - place);
        Check.due("20: the buffer stays after " + answers, test.clear(), answers.length());
        Check.due("20: no sheet after " + answers, test.result(0, 0), BAD);
        Check.due("20: no act after " + answers, test.undo(), 3);
    }

    private static void sheetTellsTheErrorPlace() {
        dueError("", 0);
        dueError("B", 1);
        dueError("BC", 2);
        dueError("BCAA", 3);
        dueError("BCA-", 3);
        dueError("BCA-----------------", 3);
        dueError("DCA", 0);
        dueError("BEA", 1);
        dueError("BCC", 2);
        dueError("BC@", 2);
        dueError("B@", 1);
        dueError("bCA", 0);
        dueError("B A", 1);
        dueError("BFF", 1);
        dueError("--.", 2);
        dueError("--,", 2);
        dueError("-~", 1);
        dueError("FCAAAA", 0);
        TestVersions none = new TestVersions();
        none.version(4);
        Check.due("20: no questions, a character", hand(none, 0, "-"), -100);
        none.clear();
        Check.due("20: no questions, no characters", none.sheet(0), 0);
        Check.due("23: points of nothing", none.result(0, 1), 0);
    }

    private static void sheetRefuses() {
        TestVersions test = three();
        for (int version : new int[] {-1, 1, 6, Integer.MAX_VALUE, Integer.MIN_VALUE}) {
            Check.due("20: sheet(" + version + ")", hand(test, version, "B"), BAD);
            Check.due("20: the buffer stays", test.clear(), 1);
        }
        for (int s = 0; s < 20; s++) {
            Check.due("20: sheet number " + s, hand(test, 0, "BCA"), s);
        }
        Check.due("20: a 21st", hand(test, 0, "BCA"), FULL);
        Check.due("20: BAD before FULL", test.sheet(1), BAD);
        test.type('A');
        Check.due("20: FULL before the error place", test.sheet(0), FULL);
        Check.due("20: the buffer stays", test.clear(), 4);
        Check.due("22: forget() of 20", test.forget(), 20);
    }

    private static void everyLetterOfEveryQuestion() {
        for (int choices = 2; choices <= 5; choices++) {
            for (int c = 32; c <= 126; c++) {
                TestVersions test = new TestVersions();
                test.add(1, choices, 0, 31 >> 5 - choices, 0);
                test.version(9);
                test.type(c);
                boolean stands = c == '-' || c >= 'A' && c < 'A' + choices;
                Check.due("20: character " + c + " of " + choices, test.sheet(0), stands ? 0 : -100);
                if (stands) {
                    Check.due("24: character " + c + " of " + choices, test.answer(0, 0), c == '-' ? NONE : c - 'A');
                }
            }
        }
    }

    private static void dueAnswers(String name, TestVersions test, int sheet, int... choices) {
        for (int q = 0; q < choices.length; q++) {
            Check.due(name + ": answer(" + sheet + ", " + q + ")", test.answer(sheet, q), choices[q]);
        }
        Check.due(name + ": no question more", test.answer(sheet, choices.length), BAD);
    }

    /** Seed 0 gives the lots 0, 54236, 42756, 54885, 3498, 49695 before "modulo". */
    private static void guessFollowsItsLots() {
        TestVersions test = three();
        Check.due("21: guess(0, 0, 5)", test.guess(0, 0, 5), 0);
        dueAnswers("21: skill 5", test, 0, 0, 1, 0);
        Check.due("23: points", test.result(0, 1), 7);
        Check.due("21: guess(0, 0, 0)", test.guess(0, 0, 0), 1);
        dueAnswers("21: skill 0", test, 1, 1, 2, 1);
        Check.due("23: points", test.result(1, 1), -3);
        Check.due("21: guess(0, 0, 6)", test.guess(0, 0, 6), 2);
        dueAnswers("21: skill 6", test, 2, 0, 1, 0);
        Check.due("21: guess(0, 0, 7)", test.guess(0, 0, 7), 3);
        dueAnswers("21: skill 7", test, 3, 0, 1, 2);
        Check.due("21: guess(0, MAX, 10)", test.guess(0, Integer.MAX_VALUE, 10), 4);
        dueAnswers("21: skill 10", test, 4, 0, 1, 2);
        Check.due("21: it is an act", test.undo(), 4);
        Check.due("21: undone", test.result(4, 0), BAD);
        test.type('B');
        test.guess(0, 1, 1);
        Check.due("21: the buffer stays", test.clear(), 1);
    }

    private static void guessRefuses() {
        TestVersions test = three();
        for (int b : new int[] {-1, 11, Integer.MAX_VALUE, Integer.MIN_VALUE}) {
            Check.due("21: guess(" + b + ", 0, 5)", test.guess(b, 0, 5), BAD);
            Check.due("21: guess(0, 0, " + b + ")", test.guess(0, 0, b), BAD);
        }
        Check.due("21: guess(1, 0, 5)", test.guess(1, 0, 5), BAD);
        Check.due("21: errors are no acts", test.undo(), 3);
        test.version(0);
        for (int s = 0; s < 20; s++) {
            Check.due("21: guess number " + s, test.guess(0, Integer.MIN_VALUE + s, s % 11), s);
        }
        Check.due("21: a 21st", test.guess(0, 1, 1), FULL);
        Check.due("21: BAD before FULL", test.guess(1, 1, 1), BAD);
        Check.due("21: BAD before FULL", test.guess(0, 1, 11), BAD);
    }

    private static void forgetDropsAll() {
        TestVersions test = five();
        Check.due("22: forget()", test.forget(), 5);
        Check.due("22: no sheet any more", test.result(0, 0), BAD);
        Check.due("22: forget() of none", test.forget(), 0);
        Check.due("22: that is an act, too", test.undo(), 4);
        Check.due("22: questions can be changed", test.change(0, 0, 2), 2);
        test.undo();
        Check.due("22: the forget before", test.undo(), 3);
        Check.due("22: the sheets are back", test.result(4, 1), 4);
        dueAnswers("22: with their answers", test, 1, 0, 1, 3);
    }

    private static void forgottenSheetsComeBackWhole() {
        TestVersions test = three();
        test.version(5);
        hand(test, 0, "ADB");
        hand(test, 1, "ACB");
        long before = test.fingerprint();
        test.forget();
        hand(test, 1, "A--");
        hand(test, 0, "BCA");
        test.undo();
        test.undo();
        Check.due("22: undo of forget() after other sheets", test.undo(), 2);
        Check.due("31: all numbers are back", test.fingerprint(), before);
        Check.due("23: its version", test.result(1, 0), 1);
        Check.due("23: its right answers", test.result(1, 2), 3);
        Check.due("23: its wrong answers", test.result(0, 3), 3);
        Check.due("30: its places", test.mistaken(0, 1), 7);
        dueAnswers("24: its choices", test, 0, 1, 0, 3);
    }

    private static void resultsOfFive() {
        TestVersions test = five();
        int[][] due = {{0, 12, 3, 0, 1}, {0, 7, 2, 1, 2}, {0, -3, 0, 3, 5}, {0, -1, 0, 1, 4}, {0, 4, 1, 0, 3}};
        for (int s = 0; s < 5; s++) {
            for (int what = 0; what <= 4; what++) {
                Check.due("23: result(" + s + ", " + what + ")", test.result(s, what), due[s][what]);
            }
        }
        hand(test, 0, "BAA");
        Check.due("23: equal points, equal rank", test.result(5, 4), 2);
        Check.due("23: equal points, equal rank", test.result(1, 4), 2);
        Check.due("23: two are before", test.result(4, 4), 4);
        TestVersions other = three();
        other.version(5);
        hand(other, 1, "ACB");
        Check.due("23: its version", other.result(0, 0), 1);
        Check.due("23: by its own key", other.result(0, 1), 12);
    }

    private static void answersOfFive() {
        TestVersions test = five();
        dueAnswers("24: BCA", test, 0, 0, 1, 2);
        dueAnswers("24: ADB", test, 2, 1, 0, 3);
        dueAnswers("24: -D-", test, 3, NONE, NONE, 3);
        TestVersions mixed = new TestVersions();
        mixed.add(1, 3, 2, 0, 0);
        mixed.version(0);
        // the seed 0 puts the choices 1, 2, 0 into the places
        hand(mixed, 0, "A");
        hand(mixed, 0, "B");
        hand(mixed, 0, "C");
        dueAnswers("24: A", mixed, 0, 1);
        dueAnswers("24: B", mixed, 1, 2);
        dueAnswers("24: C", mixed, 2, 0);
        Check.due("23: B is right", mixed.result(1, 2), 1);
        Check.due("23: C is wrong", mixed.result(2, 3), 1);
    }

    private static void aboutFive() {
        TestVersions test = five();
        int[][] due = {{2, 1, 2, 1}, {3, 1, 1, 0}, {1, 3, 1, 3}};
        for (int q = 0; q < 3; q++) {
            for (int what = 0; what < 4; what++) {
                Check.due("25: about(" + q + ", " + what + ")", test.about(q, what), due[q][what]);
            }
        }
        hand(test, 0, "CBA");
        hand(test, 0, "-BA");
        Check.due("25: 0 and 2 once each", test.about(1, 3), 0);
        Check.due("25: 3 thrice, 1 twice", test.about(2, 3), 3);
        hand(test, 0, "-B-");
        Check.due("25: 1 and 3 thrice each", test.about(2, 3), 1);
        test.forget();
        Check.due("25: without sheets", test.about(1, 0), 0);
        Check.due("25: without sheets", test.about(1, 1), 0);
        Check.due("25: without sheets", test.about(1, 2), 0);
        Check.due("25: without sheets", test.about(1, 3), NONE);
        hand(test, 0, "BCA");
        hand(test, 0, "---");
        Check.due("25: none is wrong", test.about(1, 3), NONE);
    }

    private static void partingAndMean() {
        TestVersions test = five();
        Check.dueFloat("26: parting(0)", test.parting(0), 1.0f);
        Check.dueFloat("26: parting(1)", test.parting(1), 1.0f);
        Check.dueFloat("26: parting(2)", test.parting(2), 0.5f);
        Check.dueFloat("27: mean()", test.mean(), 3.8f);
        for (int q : new int[] {-1, 3, Integer.MAX_VALUE, Integer.MIN_VALUE}) {
            Check.dueFloat("26: parting(" + q + ")", test.parting(q), -2f);
        }
        TestVersions few = three();
        Check.dueFloat("26: without sheets", few.parting(0), 0f);
        Check.dueFloat("26: no such question comes first", few.parting(3), -2f);
        Check.dueFloat("27: without sheets", few.mean(), 0f);
        hand(few, 0, "ADB");
        Check.dueFloat("26: one sheet", few.parting(0), 0f);
        Check.dueFloat("27: below 0", few.mean(), -3f);
        hand(few, 0, "ADA");
        Check.dueFloat("27: -3 and 2", few.mean(), -0.5f);
        Check.dueFloat("26: two sheets, the second is the better one", few.parting(0), 1f);
        hand(few, 0, "BDB");
        Check.dueFloat("27: -3, 2 and 2", few.mean(), 1f / 3f);
        Check.dueFloat("26: of equal ones the first number is first", few.parting(1), 0f);
        Check.dueFloat("26: sheet 1 against sheet 0", few.parting(0), 1f);
        hand(few, 0, "ACB");
        // 2, 2, 2, -3: sheets 1 and 2 are the first two, 3 and 0 the last two
        Check.dueFloat("26: right in 2, wrong in 3 and 0", few.parting(1), 0.5f);
        Check.dueFloat("26: right in 3 alone", few.parting(2), -0.5f);
    }

    private static void sameWrongAndSuspects() {
        TestVersions test = five();
        Check.due("28: sameWrong(1, 2)", test.sameWrong(1, 2), 1);
        Check.due("28: sameWrong(3, 2)", test.sameWrong(3, 2), 1);
        Check.due("28: sameWrong(0, 1)", test.sameWrong(0, 1), 0);
        Check.due("28: none and none are not the same", test.sameWrong(3, 4), 0);
        Check.due("28: with itself", test.sameWrong(2, 2), 3);
        Check.due("29: 1 with 2 before 1 with 3", test.suspects(), 102);
        hand(test, 0, "ADA");
        Check.due("28: sameWrong(2, 5)", test.sameWrong(2, 5), 2);
        Check.due("29: suspects()", test.suspects(), 205);
        TestVersions few = three();
        Check.due("29: no sheets", few.suspects(), NONE);
        hand(few, 0, "BCA");
        Check.due("29: one sheet", few.suspects(), NONE);
        hand(few, 0, "BCA");
        Check.due("29: never the same wrong choice", few.suspects(), 1);
        for (int s = 2; s < 20; s++) {
            hand(few, 0, s == 18 || s == 19 ? "A--" : "BCA");
        }
        Check.due("29: the last two", few.suspects(), 1819);
    }

    private static void wrongChoicesAreComparedByQuestions() {
        TestVersions test = three();
        test.version(5);
        // the orders are 1 2 0 and 0 2 1; wrong choices: 0 of question 1, 1 of question 2, 1 of question 0
        hand(test, 0, "ABB");
        hand(test, 1, "BBA");
        hand(test, 1, "ABB");
        Check.due("28: the same in other places", test.sameWrong(0, 1), 3);
        Check.due("28: the same letters", test.sameWrong(0, 2), 1);
        Check.due("29: suspects()", test.suspects(), 1);
    }

    private static void mistakenVersion() {
        TestVersions test = three();
        test.version(5);
        test.version(7);
        // the keys are BCA, ACB, BCA
        hand(test, 0, "BCA");
        hand(test, 1, "ACB");
        hand(test, 0, "B--");
        hand(test, 0, "ADB");
        Check.due("30: BCA by ACB", test.mistaken(0, 1), 2);
        Check.due("30: BCA by BCA", test.mistaken(0, 2), 12);
        Check.due("30: by its own", test.mistaken(0, 0), 12);
        Check.due("30: ACB by BCA", test.mistaken(1, 0), 2);
        Check.due("30: B-- by ACB", test.mistaken(2, 1), -1);
        Check.due("30: ADB by ACB", test.mistaken(3, 1), 7);
        Check.due("30: it changes nothing", test.result(0, 0), 0);
        for (int b : new int[] {-1, 4, Integer.MAX_VALUE, Integer.MIN_VALUE}) {
            Check.due("30: mistaken(" + b + ", 0)", test.mistaken(b, 0), BAD);
            Check.due("30: mistaken(0, " + b + ")", test.mistaken(0, b), BAD);
        }
        Check.due("30: no version 3", test.mistaken(0, 3), BAD);
    }

    private static void errorsOfReads() {
        TestVersions test = five();
        for (int b : new int[] {-1, 5, 20, Integer.MAX_VALUE, Integer.MIN_VALUE}) {
            Check.due("23: result(" + b + ", 0)", test.result(b, 0), BAD);
            Check.due("23: result(0, " + b + ")", test.result(0, b), BAD);
            Check.due("24: answer(" + b + ", 0)", test.answer(b, 0), BAD);
            Check.due("24: answer(0, " + b + ")", test.answer(0, b), BAD);
            Check.due("25: about(" + b + ", 0)", test.about(b, 0), BAD);
            Check.due("25: about(0, " + b + ")", test.about(0, b), BAD);
            Check.due("28: sameWrong(" + b + ", 0)", test.sameWrong(b, 0), BAD);
            Check.due("28: sameWrong(0, " + b + ")", test.sameWrong(0, b), BAD);
        }
        Check.due("25: what 4", test.about(0, 4), BAD);
        Check.due("25: no question 3", test.about(3, 0), BAD);
        Check.due("24: no question 3", test.answer(0, 3), BAD);
        test.parting(0);
        test.mean();
        test.suspects();
        test.mistaken(0, 0);
        Check.due("23 to 30: no acts", test.undo(), 4);
        Check.due("23 to 30: only the last sheet went", test.result(3, 1), -1);
        Check.due("23 to 30: only the last sheet went", test.result(4, 1), BAD);
    }
}
