/**
 * Going through the document from its first line: sentences about what comes in which order and about what
 * belongs to one version, one sheet or one object alone, which the other tests by hand do not look at.
 * The lots before "modulo" that are used, as the upper 16 bits of x: seed 0: 0, 54236; seed 5: 18655, 41225,
 * 10616; seed 9: 20472, 43923, 11119; seed 35: 65052, 28695, 14388, 24904, 17591;
 * seed 10: 37311, 28214, 44013, 8870, 16887, 2234, 20162, 60360; seed 2147483647: 15929, 37177;
 * seed -2147483648: 32768, 21468.
 */
public final class DocumentTest {
    private static final int BAD = TestVersions.BAD;
    private static final int STATE = TestVersions.STATE;
    private static final int NONE = TestVersions.NONE;
    private static final int MIN = Integer.MIN_VALUE;
    private static final int MAX = Integer.MAX_VALUE;

    private DocumentTest() {
    }

    public static void main(String[] args) {
        unitsStandByTheirFirstQuestions();
        allGroupsAndNone();
        rowsOfUnitsInTheNewOrder();
        choicesInTheNewOrder();
        choicesBehindAllRowsOfUnits();
        choicesAreMixedAnewWhenOthersKeepMore();
        rightChoiceAndHeightTakeNoLots();
        pagesAreThoseOfTheVersion();
        linesAreThoseOfAllVersions();
        lettersArePlacesAndAnswersAreChoices();
        resultsOfTwoVersions();
        questionsByTheSheetsOfTwoVersions();
        sheetsOfTwoVersionsAreCompared();
        mistakenGradesByPlaces();
        fingerprintOfTwoVersions();
        guessTellsThePlaceOfAChoice();
        errorPlaceOfEachVersion();
        twoObjectsAreEachTheirOwn();
        theSameCallTwice();
        Check.end("DocumentTest");
    }

    /** Questions of one line with two choices of which 0 is right, in these groups. */
    private static TestVersions grouped(int keeps, int... groups) {
        TestVersions test = new TestVersions();
        for (int group : groups) {
            test.add(1, 2, 0, keeps, group);
        }
        return test;
    }

    private static void dueOrder(String name, TestVersions test, int version, int... questions) {
        for (int place = 0; place < questions.length; place++) {
            Check.due(name + ": at(" + version + ", " + place + ", 0)", test.at(version, place, 0), questions[place]);
            Check.due(name + ": where(" + version + ", " + questions[place] + ")",
                    test.where(version, questions[place]), place);
        }
        Check.due(name + ": no place more", test.at(version, questions.length, 0), BAD);
    }

    private static void dueChoices(String name, TestVersions test, int version, int place, int... choices) {
        for (int k = 0; k < choices.length; k++) {
            Check.due(name + ": choice(" + version + ", " + place + ", " + k + ")",
                    test.choice(version, place, k), choices[k]);
        }
        Check.due(name + ": no choice more", test.choice(version, place, choices.length), BAD);
    }

    // ---- QUESTIONS: "the questions of a group are one unit, at the place of its first question"

    /** 18655 % 2 = 1 leaves the units 0 2 and 1 3; 41225 % 2 = 1 leaves 0 2, 10616 % 2 = 0 turns 1 3. */
    private static void unitsStandByTheirFirstQuestions() {
        TestVersions test = grouped(3, 5, 1, 5, 1);
        test.version(5);
        dueOrder("7: group 5 before group 1", test, 0, 0, 2, 3, 1);
    }

    /**
     * The units A = 0 6, B = 1, C = 2, D = 3, E = 4, F = 5 8, G = 7. The lots 37311 % 7 = 1, 28214 % 6 = 2,
     * 44013 % 5 = 3, 8870 % 4 = 2, 16887 % 3 = 0, 2234 % 2 = 0 make of it A G C D E F B, A G F D E C B,
     * A G F E D C B, A G E F D C B, E G A F D C B, G E A F D C B; 20162 turns 0 6, 60360 turns 5 8.
     */
    private static void allGroupsAndNone() {
        TestVersions test = grouped(3, 5, 4, 0, 3, 2, 1, 5, 0, 1);
        test.version(10);
        dueOrder("7: all groups and none", test, 0, 7, 4, 6, 0, 8, 5, 3, 2, 1);
    }

    // ---- VERSIONS: "then, for each unit in the new order, .. then, for each question in the new order of all"

    /** 65052 % 2 = 0 exchanges the units 0 2 and 1 3; then 28695 leaves 1 3, and 14388 turns 0 2. */
    private static void rowsOfUnitsInTheNewOrder() {
        TestVersions test = grouped(3, 1, 2, 1, 2);
        test.version(35);
        dueOrder("7: the unit that is first now has the second lot", test, 0, 1, 3, 2, 0);
    }

    /** 65052 exchanges the questions; then 28695 leaves the choices of 1, and 14388 turns those of 0. */
    private static void choicesInTheNewOrder() {
        TestVersions test = grouped(0, 0, 0);
        test.version(35);
        dueOrder("7: exchanged", test, 0, 1, 0);
        dueChoices("12: question 1 has the second lot", test, 0, 0, 0, 1);
        dueChoices("12: question 0 has the third lot", test, 0, 1, 1, 0);
        Check.due("10: key of question 1", test.at(0, 0, 1), 0);
        Check.due("10: key of question 0", test.at(0, 1, 1), 1);
    }

    /** 65052 exchanges the units 0 2 and 1; 28695 leaves 0 2; then 14388 turns the choices of 1, 24904 those of 0. */
    private static void choicesBehindAllRowsOfUnits() {
        TestVersions test = grouped(0, 3, 0, 3);
        test.version(35);
        dueOrder("7: the unit of two has the second lot", test, 0, 1, 0, 2);
        dueChoices("12: third lot", test, 0, 0, 1, 0);
        dueChoices("12: fourth lot", test, 0, 1, 1, 0);
        // 17591 % 2 = 1
        dueChoices("12: fifth lot", test, 0, 2, 0, 1);
    }

    /** If question 1 keeps a choice, it needs no lot, and the second lot is that of the choices of 0. */
    private static void choicesAreMixedAnewWhenOthersKeepMore() {
        TestVersions test = grouped(0, 0, 0);
        test.version(35);
        test.version(9);
        dueChoices("12: third lot of seed 35", test, 0, 1, 1, 0);
        // 20472 exchanges the questions, 43923 and 11119 leave the choices
        dueOrder("7: seed 9", test, 1, 1, 0);
        dueChoices("12: third lot of seed 9", test, 1, 1, 0, 1);
        test.change(1, 2, 1);
        dueChoices("12: second lot of seed 35", test, 0, 1, 0, 1);
        Check.due("10: the key of 0 follows", test.at(0, 1, 1), 0);
        test.change(1, 2, 0);
        dueChoices("12: third lot again", test, 0, 1, 1, 0);
        test.undo();
        dueChoices("12: second lot, undone", test, 0, 1, 0, 1);
        test.undo();
        dueChoices("12: third lot, undone", test, 0, 1, 1, 0);
        Check.due("10: the key of 0, undone", test.at(0, 1, 1), 1);
    }

    private static void rightChoiceAndHeightTakeNoLots() {
        TestVersions test = grouped(0, 0, 0);
        test.version(35);
        test.change(0, 1, 1);
        test.change(1, 0, 9);
        dueOrder("4: the order stays", test, 0, 1, 0);
        dueChoices("4: the choices stay", test, 0, 0, 0, 1);
        dueChoices("4: the choices stay", test, 0, 1, 1, 0);
        Check.due("10: the key is that of the new right choice", test.at(0, 1, 1), 0);
        Check.due("10: the line is that behind the new height", test.at(0, 1, 3), 9);
    }

    // ---- PAGES: "the questions of a version are put on pages in their order"

    /** Heights 5, 4, 5 in the orders 1 2 0 and 0 2 1 of the seeds 0 and 5. */
    private static TestVersions heights(int lines) {
        TestVersions test = new TestVersions();
        test.add(5, 2, 0, 3, 0);
        test.add(4, 2, 0, 3, 0);
        test.add(5, 2, 0, 3, 0);
        test.version(0);
        test.version(5);
        test.setLines(lines);
        return test;
    }

    private static void duePages(String name, TestVersions test, int version, int[]... due) {
        Check.due(name + ": pages(" + version + ")", test.pages(version), due.length);
        for (int page = 0; page < due.length; page++) {
            for (int what = 0; what < 2; what++) {
                Check.due(name + ": page(" + version + ", " + page + ", " + what + ")",
                        test.page(version, page, what), due[page][what]);
            }
        }
        Check.due(name + ": no page more", test.page(version, due.length, 0), BAD);
    }

    private static void duePlaces(String name, TestVersions test, int version, int[]... due) {
        for (int place = 0; place < due.length; place++) {
            Check.due(name + ": at(" + version + ", " + place + ", 2)", test.at(version, place, 2), due[place][0]);
            Check.due(name + ": at(" + version + ", " + place + ", 3)", test.at(version, place, 3), due[place][1]);
        }
    }

    private static void pagesAreThoseOfTheVersion() {
        TestVersions test = heights(9);
        duePages("16: 4 5 and 5 on 9", test, 0, new int[] {2, 9}, new int[] {1, 5});
        duePlaces("10: 4 5 and 5 on 9", test, 0, new int[] {0, 0}, new int[] {0, 4}, new int[] {1, 0});
        duePages("16: 5 and 5 4 on 9", test, 1, new int[] {1, 5}, new int[] {2, 9});
        duePlaces("10: 5 and 5 4 on 9", test, 1, new int[] {0, 0}, new int[] {1, 0}, new int[] {1, 5});
        test.change(2, 0, 6);
        // 4 6 5 and 5 6 4: no two of them stand on 9 lines in the first, nor in the second
        duePages("16: 4 and 6 and 5 on 9", test, 0, new int[] {1, 4}, new int[] {1, 6}, new int[] {1, 5});
        duePages("16: 5 and 6 and 4 on 9", test, 1, new int[] {1, 5}, new int[] {1, 6}, new int[] {1, 4});
    }

    private static void linesAreThoseOfAllVersions() {
        TestVersions test = heights(14);
        duePages("15: 14 lines", test, 0, new int[] {3, 14});
        duePages("15: 14 lines", test, 1, new int[] {3, 14});
        test.setLines(13);
        duePages("15: 13 lines", test, 0, new int[] {2, 9}, new int[] {1, 5});
        duePages("15: 13 lines", test, 1, new int[] {1, 5}, new int[] {2, 9});
        test.undo();
        duePages("15: 14 lines again", test, 0, new int[] {3, 14});
        duePages("15: 14 lines again", test, 1, new int[] {3, 14});
    }

    // ---- SHEETS: "a sheet has a version, and for each place an answer: the place of a choice, or none"

    /**
     * One question of three choices of which 0 is right. Version 0 shows the choices 1 2 0, so its key is C;
     * version 1 shows 0 2 1 (18655 % 3 = 1, 41225 % 2 = 1), so its key is A.
     * The choices of the sheets are 0, 1, 0, 1, 2 and none.
     */
    private static TestVersions sixSheets() {
        TestVersions test = new TestVersions();
        test.add(1, 3, 0, 0, 0);
        test.version(0);
        test.version(5);
        dueChoices("12: seed 0", test, 0, 0, 1, 2, 0);
        dueChoices("12: seed 5", test, 1, 0, 0, 2, 1);
        String answers = "AACCB-";
        int[] versions = {1, 0, 0, 1, 0, 1};
        for (int s = 0; s < 6; s++) {
            Check.due("20: sheet " + s, Made.hand(test, versions[s], answers.substring(s, s + 1)), s);
        }
        return test;
    }

    private static void lettersArePlacesAndAnswersAreChoices() {
        TestVersions test = sixSheets();
        int[] choices = {0, 1, 0, 1, 2, NONE};
        for (int s = 0; s < 6; s++) {
            Check.due("24: answer(" + s + ", 0)", test.answer(s, 0), choices[s]);
        }
    }

    private static void resultsOfTwoVersions() {
        TestVersions test = sixSheets();
        int[][] due = {{1, 4, 1, 0, 1}, {0, -1, 0, 1, 4}, {0, 4, 1, 0, 1}, {1, -1, 0, 1, 4}, {0, -1, 0, 1, 4}, {1, 0, 0, 0, 3}};
        for (int s = 0; s < 6; s++) {
            for (int what = 0; what < 5; what++) {
                Check.due("23: result(" + s + ", " + what + ")", test.result(s, what), due[s][what]);
            }
        }
        Check.dueFloat("27: 4 - 1 + 4 - 1 - 1 + 0 by 6", test.mean(), 5f / 6f);
    }

    private static void questionsByTheSheetsOfTwoVersions() {
        TestVersions test = sixSheets();
        Check.due("25: 0 of both versions", test.about(0, 0), 2);
        Check.due("25: 1, 1 and 2", test.about(0, 1), 3);
        Check.due("25: none", test.about(0, 2), 1);
        Check.due("25: 1 twice, as A and as C", test.about(0, 3), 1);
        // the sheets 0 2 5 against 1 3 4
        Check.dueFloat("26: two of three", test.parting(0), 2f / 3f);
    }

    private static void sheetsOfTwoVersionsAreCompared() {
        TestVersions test = sixSheets();
        Check.due("28: A and C are choice 1", test.sameWrong(1, 3), 1);
        Check.due("28: and so from the other side", test.sameWrong(3, 1), 1);
        Check.due("28: A and A are choices 0 and 1", test.sameWrong(0, 1), 0);
        Check.due("28: C and C are choices 0 and 1", test.sameWrong(2, 3), 0);
        Check.due("28: A and C are both right", test.sameWrong(0, 2), 0);
        Check.due("28: 1 and 2 are other wrong ones", test.sameWrong(1, 4), 0);
        Check.due("28: 1 and none", test.sameWrong(3, 5), 0);
        Check.due("29: suspects()", test.suspects(), 103);
    }

    /** The letters A A C C B - by the key C of version 0 and by the key A of version 1. */
    private static void mistakenGradesByPlaces() {
        TestVersions test = sixSheets();
        int[][] due = {{-1, 4}, {-1, 4}, {4, -1}, {4, -1}, {-1, -1}, {0, 0}};
        for (int s = 0; s < 6; s++) {
            for (int version = 0; version < 2; version++) {
                Check.due("30: mistaken(" + s + ", " + version + ")", test.mistaken(s, version), due[s][version]);
            }
        }
    }

    private static void fingerprintOfTwoVersions() {
        int[] numbers = {1, 1, 0, 0, 0, 3, 2, 0, 2, 0, 0, 1, 0, 0, 0, 0, 1, 6, 1, 4, 1, 0, 1, 0, 0, -1, 0, 1, 4, 1,
            0, 4, 1, 0, 1, 0, 1, -1, 0, 1, 4, 1, 0, -1, 0, 1, 4, 2, 1, 0, 0, 0, 3, NONE};
        long print = 181;
        for (int number : numbers) {
            print = 31 * print + number;
        }
        Check.due("32: of six sheets", sixSheets().fingerprint(), print);
    }

    // ---- promise 21: "otherwise the choice at the place that a lot of the number of choices tells"

    private static void guessTellsThePlaceOfAChoice() {
        TestVersions test = sixSheets();
        test.forget();
        // 15929 % 10 = 9 is not less than 9, and 37177 % 3 = 1 is B
        test.guess(0, MAX, 9);
        Check.due("24: B of 1 2 0", test.answer(0, 0), 2);
        test.guess(1, MAX, 9);
        Check.due("24: B of 0 2 1", test.answer(1, 0), 2);
        test.guess(0, MAX, 10);
        Check.due("24: the right choice", test.answer(2, 0), 0);
        Check.due("30: it is C", test.mistaken(2, 0), 4);
        Check.due("30: so it is not A", test.mistaken(2, 1), -1);
        // 32768 % 10 = 8 is not less than 8, and 21468 % 3 = 0 is A
        test.guess(0, MIN, 8);
        Check.due("24: A of 1 2 0", test.answer(3, 0), 1);
        test.guess(1, MIN, 8);
        Check.due("24: A of 0 2 1", test.answer(4, 0), 0);
        Check.due("23: a lot may be right", test.result(4, 2), 1);
    }

    /** Two and five choices in the orders 1 0 and 0 1: D stands where the question of five choices does. */
    private static void errorPlaceOfEachVersion() {
        TestVersions test = new TestVersions();
        test.add(1, 2, 0, 0, 0);
        test.add(1, 5, 0, 0, 0);
        test.version(0);
        test.version(5);
        dueOrder("7: seed 0", test, 0, 1, 0);
        dueOrder("7: seed 5", test, 1, 0, 1);
        Check.due("20: AD in the order 1 0", Made.hand(test, 0, "AD"), -101);
        Check.due("20: the same buffer in the order 0 1", test.sheet(1), 0);
        Check.due("20: DA in the order 0 1", Made.hand(test, 1, "DA"), -100);
        Check.due("20: the same buffer in the order 1 0", test.sheet(0), 1);
    }

    // ---- each object by itself; the same calls give the same answers

    private static void twoObjectsAreEachTheirOwn() {
        TestVersions one = new TestVersions();
        TestVersions two = new TestVersions();
        for (int q = 0; q < 3; q++) {
            Check.due("2: the number in the one", one.add(1 + q, 2, 0, 3, 0), q);
        }
        Check.due("6: the other has no questions", two.questions(), 0);
        for (int q = 0; q < 3; q++) {
            Check.due("2: the number in the other", two.add(9 - q, 2, 0, 3, 0), q);
        }
        one.version(0);
        two.version(5);
        dueOrder("10: the one", one, 0, 1, 2, 0);
        dueOrder("10: the other", two, 0, 0, 2, 1);
        one.type('B');
        Check.due("18: the buffer of the other", two.type('?'), 1);
        Check.due("18: the buffer of the one", one.type('-'), 2);
        one.type('A');
        Check.due("20: a sheet of the one", one.sheet(0), 0);
        Check.due("24: B at place 0", one.answer(0, 1), 1);
        Check.due("24: - at place 1", one.answer(0, 2), NONE);
        Check.due("2: the one has a sheet", one.add(1, 2, 0, 0, 0), STATE);
        Check.due("2: the other has none", two.add(1, 2, 0, 0, 0), 3);
        Check.due("15: P of the other", two.setLines(9), 30);
        Check.due("15: P of the one", one.setLines(10), 30);
        Check.due("31: the history of the one", one.undo(), 4);
        Check.due("31: the history of the other", two.undo(), 4);
        Check.due("19: the buffer of the other", two.clear(), 1);
        Check.due("22: the other has no sheets", two.forget(), 0);
        Check.due("22: the one has one", one.forget(), 1);
    }

    private static void theSameCallTwice() {
        TestVersions test = sixSheets();
        for (int i = 0; i < 2; i++) {
            // 16838 % 3 = 2 and 38526 % 2 = 0: seed 1 shows 1 0 2, and its key B is neither C nor A
            Check.due("14: unlike(0, 40)", test.unlike(0, 40), 1);
            Check.due("12: choice(1, 0, 1)", test.choice(1, 0, 1), 2);
            Check.due("25: about(0, 3)", test.about(0, 3), 1);
            Check.dueFloat("26: parting(0)", test.parting(0), 2f / 3f);
            Check.due("29: suspects()", test.suspects(), 103);
        }
    }
}
