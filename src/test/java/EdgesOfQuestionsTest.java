/**
 * The edges of promises 1 to 6 and of the description's QUESTIONS: a test for each sentence that names one.
 * The lots before "modulo" that are used: seed -2147483648: 32768, 21468; seed 0: 0, 54236.
 */
public final class EdgesOfQuestionsTest {
    private static final int BAD = TestVersions.BAD;
    private static final int STATE = TestVersions.STATE;
    private static final int FULL = TestVersions.FULL;
    private static final int NONE = TestVersions.NONE;
    private static final int MIN = Integer.MIN_VALUE;
    private static final int MAX = Integer.MAX_VALUE;

    private EdgesOfQuestionsTest() {
    }

    public static void main(String[] args) {
        newTestHasNoQuestions();
        newTestHasNoVersions();
        newTestHasNoSheets();
        newTestHasNeitherCharactersNorStates();
        heightIsOneToNine();
        choicesAreTwoToFive();
        rightIsBelowTheChoices();
        keepsIsBelowTwoToTheChoices();
        groupIsZeroToFive();
        addWithSheets();
        addBeyondTwenty();
        addWithSeveralErrors();
        groupZeroIsNoGroup();
        groupsOneAndFiveAreUnits();
        twentyInOneGroup();
        unitStandsAtItsFirstQuestion();
        removeBesideTheRange();
        removeWithSheets();
        removeFirstAndLast();
        removeTheMiddleOne();
        removeTheOnlyOne();
        removeOfTwenty();
        changeBesideTheRange();
        changeHeight();
        changeRight();
        changeKeeps();
        changeGroup();
        changeWithSheets();
        questionBesideTheRange();
        questionsFromNoneToTwenty();
        Check.end("EdgesOfQuestionsTest");
    }

    // ---- promise 1

    private static void newTestHasNoQuestions() {
        Check.due("1: questions()", new TestVersions().questions(), 0);
        Check.due("1: question(0, 0)", new TestVersions().question(0, 0), BAD);
        Check.due("1: remove(0)", new TestVersions().remove(0), BAD);
        Check.due("1: change(0, 0, 1)", new TestVersions().change(0, 0, 1), BAD);
        Check.due("1: about(0, 0)", new TestVersions().about(0, 0), BAD);
        Check.dueFloat("1: parting(0)", new TestVersions().parting(0), -2f);
        Check.due("1: fingerprint()", new TestVersions().fingerprint(), 5392171L);
    }

    private static void newTestHasNoVersions() {
        Check.due("1: versions()", new TestVersions().versions(), 0);
        Check.due("1: drop()", new TestVersions().drop(), STATE);
        Check.due("1: at(0, 0, 0)", new TestVersions().at(0, 0, 0), BAD);
        Check.due("1: where(0, 0)", new TestVersions().where(0, 0), BAD);
        Check.due("1: choice(0, 0, 0)", new TestVersions().choice(0, 0, 0), BAD);
        Check.due("1: alike(0, 0, 0)", new TestVersions().alike(0, 0, 0), BAD);
        Check.due("1: pages(0)", new TestVersions().pages(0), BAD);
        Check.due("1: page(0, 0, 0)", new TestVersions().page(0, 0, 0), BAD);
        Check.due("1: sheet(0)", new TestVersions().sheet(0), BAD);
        Check.due("1: guess(0, 0, 0)", new TestVersions().guess(0, 0, 0), BAD);
        Check.due("1: unlike(5, 40)", new TestVersions().unlike(5, 40), 5);
    }

    private static void newTestHasNoSheets() {
        Check.due("1: forget()", new TestVersions().forget(), 0);
        Check.due("1: result(0, 0)", new TestVersions().result(0, 0), BAD);
        Check.due("1: answer(0, 0)", new TestVersions().answer(0, 0), BAD);
        Check.due("1: sameWrong(0, 0)", new TestVersions().sameWrong(0, 0), BAD);
        Check.due("1: mistaken(0, 0)", new TestVersions().mistaken(0, 0), BAD);
        Check.due("1: suspects()", new TestVersions().suspects(), NONE);
        Check.dueFloat("1: mean()", new TestVersions().mean(), 0f);
    }

    private static void newTestHasNeitherCharactersNorStates() {
        Check.due("1: clear()", new TestVersions().clear(), 0);
        Check.due("1: type('A')", new TestVersions().type('A'), 1);
        Check.due("1: undo()", new TestVersions().undo(), NONE);
        Check.due("1: P is 30", new TestVersions().setLines(60), 30);
    }

    // ---- promise 2: the ranges

    private static void dueAdd(int due, int height, int choices, int right, int keeps, int group) {
        String call = "2: add(" + height + ", " + choices + ", " + right + ", " + keeps + ", " + group + ")";
        if (due == BAD) {
            Twins.dueUnchanged(call, Made::empty, BAD, test -> test.add(height, choices, right, keeps, group));
            Twins.dueUnchanged(call, Made::three, BAD, test -> test.add(height, choices, right, keeps, group));
            return;
        }
        TestVersions test = new TestVersions();
        Check.due(call, test.add(height, choices, right, keeps, group), due);
        int[] numbers = {height, right, keeps, group, choices};
        for (int what = 0; what < 5; what++) {
            Check.due(call + ", then question(0, " + what + ")", test.question(0, what), numbers[what]);
        }
    }

    private static void heightIsOneToNine() {
        dueAdd(BAD, 0, 2, 0, 0, 0);
        dueAdd(0, 1, 2, 0, 0, 0);
        dueAdd(0, 9, 2, 0, 0, 0);
        dueAdd(BAD, 10, 2, 0, 0, 0);
        dueAdd(BAD, MIN, 2, 0, 0, 0);
        dueAdd(BAD, MAX, 2, 0, 0, 0);
    }

    private static void choicesAreTwoToFive() {
        dueAdd(BAD, 1, 1, 0, 0, 0);
        dueAdd(0, 1, 2, 0, 0, 0);
        dueAdd(0, 1, 5, 0, 0, 0);
        dueAdd(BAD, 1, 6, 0, 0, 0);
        dueAdd(BAD, 1, 0, 0, 0, 0);
        dueAdd(BAD, 1, MIN, 0, 0, 0);
        dueAdd(BAD, 1, MAX, 0, 0, 0);
        // 32 more choices would be the same shift of 1
        dueAdd(BAD, 1, 34, 0, 3, 0);
        dueAdd(BAD, 1, -30, 0, 3, 0);
    }

    private static void rightIsBelowTheChoices() {
        for (int choices = 2; choices <= 5; choices++) {
            dueAdd(BAD, 1, choices, -1, 0, 0);
            dueAdd(0, 1, choices, 0, 0, 0);
            dueAdd(0, 1, choices, choices - 1, 0, 0);
            dueAdd(BAD, 1, choices, choices, 0, 0);
        }
        dueAdd(BAD, 1, 5, MIN, 0, 0);
        dueAdd(BAD, 1, 5, MAX, 0, 0);
    }

    private static void keepsIsBelowTwoToTheChoices() {
        int[] greatest = {0, 0, 3, 7, 15, 31};
        for (int choices = 2; choices <= 5; choices++) {
            dueAdd(BAD, 1, choices, 0, -1, 0);
            dueAdd(0, 1, choices, 0, 0, 0);
            dueAdd(0, 1, choices, 0, greatest[choices], 0);
            dueAdd(BAD, 1, choices, 0, greatest[choices] + 1, 0);
        }
        dueAdd(BAD, 1, 5, 0, MIN, 0);
        dueAdd(BAD, 1, 5, 0, MAX, 0);
    }

    private static void groupIsZeroToFive() {
        dueAdd(BAD, 1, 2, 0, 0, -1);
        dueAdd(0, 1, 2, 0, 0, 0);
        dueAdd(0, 1, 2, 0, 0, 5);
        dueAdd(BAD, 1, 2, 0, 0, 6);
        dueAdd(BAD, 1, 2, 0, 0, MIN);
        dueAdd(BAD, 1, 2, 0, 0, MAX);
    }

    // ---- promise 2: the state, the room, and several errors

    private static void addWithSheets() {
        Twins.dueUnchanged("2: add with sheets", Made::threeWithSheets, STATE, test -> test.add(1, 2, 0, 0, 0));
        TestVersions test = Made.three();
        Made.hand(test, 0, "BCA");
        Check.due("2: with one sheet", test.add(1, 2, 0, 0, 0), STATE);
        test.forget();
        Check.due("2: without sheets again", test.add(1, 2, 0, 0, 0), 3);
    }

    private static void addBeyondTwenty() {
        TestVersions test = Made.questions(19);
        Check.due("2: the 20th", test.add(9, 5, 4, 31, 5), 19);
        Check.due("2: the 21st", test.add(9, 5, 4, 31, 5), FULL);
        Check.due("2: there are 20", test.questions(), 20);
        Check.due("2: one less", test.remove(0), 19);
        Check.due("2: the 20th again", test.add(1, 2, 0, 0, 0), 19);
        Check.due("2: the 21st again", test.add(1, 2, 0, 0, 0), FULL);
        Twins.dueUnchanged("2: add to 20", Made::twentyQuestions, FULL, full -> full.add(1, 2, 0, 0, 0));
    }

    private static void addWithSeveralErrors() {
        Twins.dueUnchanged("2: BAD before STATE", Made::threeWithSheets, BAD, test -> test.add(10, 2, 0, 0, 0));
        Twins.dueUnchanged("2: BAD before FULL", Made::twentyQuestions, BAD, test -> test.add(1, 2, 2, 0, 0));
        Twins.dueUnchanged("2: STATE before FULL", Made::full, STATE, test -> test.add(1, 2, 0, 0, 0));
        Twins.dueUnchanged("2: BAD before STATE and FULL", Made::full, BAD, test -> test.add(1, 2, 0, 0, 6));
        dueAdd(BAD, 0, 1, 1, 4, 6);
    }

    // ---- the units

    private static TestVersions grouped(int seed, int... groups) {
        TestVersions test = new TestVersions();
        for (int group : groups) {
            test.add(1, 2, 0, 3, group);
        }
        test.version(seed);
        return test;
    }

    private static void dueOrder(String name, TestVersions test, int... questions) {
        for (int place = 0; place < questions.length; place++) {
            Check.due(name + ": at(0, " + place + ", 0)", test.at(0, place, 0), questions[place]);
        }
    }

    /** 3 units: 32768 % 3 = 2 leaves the last one, 21468 % 2 = 0 exchanges the first two. */
    private static void groupZeroIsNoGroup() {
        dueOrder("2: three of no group", grouped(MIN, 0, 0, 0), 1, 0, 2);
        dueOrder("2: group 0 twice is no unit", grouped(MIN, 0, 1, 0), 1, 0, 2);
        dueOrder("2: groups 1 and 2 are no unit", grouped(MIN, 1, 0, 2), 1, 0, 2);
    }

    /** 2 units: 32768 % 2 = 0 exchanges them, 21468 % 2 = 0 turns the unit of two. */
    private static void groupsOneAndFiveAreUnits() {
        dueOrder("2: group 1", grouped(MIN, 1, 0, 1), 1, 2, 0);
        dueOrder("2: group 5", grouped(MIN, 5, 0, 5), 1, 2, 0);
    }

    /** One unit needs no lots, so its row of 20 gets the lots that a row of 20 units gets. */
    private static void twentyInOneGroup() {
        int[] groups = new int[20];
        int[] seed0 = {13, 12, 5, 4, 11, 8, 14, 3, 7, 16, 17, 15, 2, 1, 19, 18, 9, 6, 10, 0};
        dueOrder("2: 20 units", grouped(0, groups), seed0);
        java.util.Arrays.fill(groups, 4);
        dueOrder("2: 20 in one unit", grouped(0, groups), seed0);
    }

    /** Seed 0 exchanges two units (lot 0 of 2), and turns a unit of two (54236 % 2 = 0). */
    private static void unitStandsAtItsFirstQuestion() {
        dueOrder("2: units 0 2 and 1", grouped(0, 3, 0, 3), 1, 2, 0);
        dueOrder("2: units 0 and 1 2", grouped(0, 0, 3, 3), 2, 1, 0);
        TestVersions test = grouped(0, 3, 0, 0, 3);
        // units 0 3, 1, 2: lot 0 of 3 puts 2 first and 0 3 last, 54236 % 2 = 0 exchanges 2 and 1, 42756 turns 0 3
        dueOrder("2: units 0 3, 1, 2", test, 1, 2, 3, 0);
        test.remove(0);
        // what was 1, 2, 3 is now 0, 1, 2, each by itself: lot 0 of 3, then 0 of 2
        dueOrder("3: the first question of a unit is gone", test, 1, 2, 0);
    }

    // ---- promise 3

    private static void removeBesideTheRange() {
        Twins.dueUnchanged("3: remove(0) of none", Made::empty, BAD, test -> test.remove(0));
        for (int question : new int[] {-1, 3, 19, 20, MIN, MAX}) {
            Twins.dueUnchanged("3: remove(" + question + ") of 3", Made::three, BAD, test -> test.remove(question));
            Twins.dueUnchanged("3: BAD before STATE", Made::threeWithSheets, BAD, test -> test.remove(question));
        }
        Twins.dueUnchanged("3: remove(20) of 20", Made::twentyQuestions, BAD, test -> test.remove(20));
    }

    private static void removeWithSheets() {
        for (int question = 0; question < 3; question++) {
            int removed = question;
            Twins.dueUnchanged("3: remove with sheets", Made::threeWithSheets, STATE, test -> test.remove(removed));
        }
        TestVersions test = Made.three();
        test.guess(0, 0, 0);
        Check.due("3: with one sheet", test.remove(0), STATE);
        test.forget();
        Check.due("3: without sheets again", test.remove(0), 2);
    }

    private static void removeFirstAndLast() {
        TestVersions first = Made.three();
        Check.due("3: remove(0) of 3", first.remove(0), 2);
        Check.due("3: 1 is 0 now", first.question(0, 0), 3);
        Check.due("3: 2 is 1 now", first.question(1, 0), 4);
        Check.due("3: there is no 2", first.question(2, 0), BAD);
        TestVersions last = Made.three();
        Check.due("3: remove(2) of 3", last.remove(2), 2);
        Check.due("3: 0 stays", last.question(0, 0), 2);
        Check.due("3: 1 stays", last.question(1, 0), 3);
        Check.due("3: there is no 2 then", last.question(2, 0), BAD);
    }

    private static void removeTheMiddleOne() {
        TestVersions test = Made.three();
        Check.due("3: remove(1) of 3", test.remove(1), 2);
        int[][] due = {{2, 0, 3, 0, 2}, {4, 2, 15, 0, 4}};
        for (int q = 0; q < 2; q++) {
            for (int what = 0; what < 5; what++) {
                Check.due("3: then question(" + q + ", " + what + ")", test.question(q, what), due[q][what]);
            }
        }
        Check.due("3: there is no 2 then", test.question(2, 4), BAD);
    }

    private static void removeTheOnlyOne() {
        TestVersions test = new TestVersions();
        test.add(7, 2, 0, 0, 0);
        Check.due("3: remove(0) of 1", test.remove(0), 0);
        Check.due("3: remove(0) of none", test.remove(0), BAD);
        Check.due("3: the next number is 0", test.add(8, 2, 0, 0, 0), 0);
        Check.due("3: its height", test.question(0, 0), 8);
    }

    private static void removeOfTwenty() {
        TestVersions test = new TestVersions();
        for (int i = 0; i < 20; i++) {
            test.add(1 + i % 9, 5, i % 5, i, i % 6);
        }
        Check.due("3: remove(19) of 20", test.remove(19), 19);
        Check.due("3: remove(0) of 19", test.remove(0), 18);
        for (int q = 0; q < 18; q++) {
            // it was number q + 1
            Check.due("3: height of " + q, test.question(q, 0), 1 + (q + 1) % 9);
            Check.due("3: right choice of " + q, test.question(q, 1), (q + 1) % 5);
            Check.due("3: kept choices of " + q, test.question(q, 2), q + 1);
            Check.due("3: group of " + q, test.question(q, 3), (q + 1) % 6);
        }
    }

    // ---- promise 4

    private static void dueChangeBad(int question, int what, int value) {
        String call = "4: change(" + question + ", " + what + ", " + value + ")";
        Twins.dueUnchanged(call, Made::three, BAD, test -> test.change(question, what, value));
        Twins.dueUnchanged(call + " with sheets", Made::threeWithSheets, BAD, test -> test.change(question, what, value));
    }

    private static void dueChange(int question, int what, int value, int previous) {
        String call = "4: change(" + question + ", " + what + ", " + value + ")";
        TestVersions test = Made.three();
        Check.due(call, test.change(question, what, value), previous);
        Check.due(call + ", then question()", test.question(question, what), value);
        Check.due(call + " is an act", test.undo(), 4);
        Check.due(call + ", undone", test.question(question, what), previous);
    }

    private static void changeBesideTheRange() {
        Twins.dueUnchanged("4: change(0, 0, 1) of none", Made::empty, BAD, test -> test.change(0, 0, 1));
        for (int question : new int[] {-1, 3, 20, MIN, MAX}) {
            for (int what = 0; what < 4; what++) {
                dueChangeBad(question, what, 1);
            }
        }
        for (int what : new int[] {-1, 4, 5, MIN, MAX}) {
            dueChangeBad(0, what, 1);
            // the number of choices itself cannot be changed, not even into what it is
            dueChangeBad(0, what, 2);
        }
        dueChangeBad(3, 4, 10);
    }

    private static void changeHeight() {
        dueChangeBad(0, 0, 0);
        dueChange(0, 0, 1, 2);
        dueChange(2, 0, 9, 4);
        dueChangeBad(2, 0, 10);
        dueChangeBad(2, 0, MIN);
        dueChangeBad(2, 0, MAX);
        dueChange(1, 0, 3, 3);
    }

    private static void changeRight() {
        int[] rights = {0, 1, 2};
        for (int question = 0; question < 3; question++) {
            int choices = question + 2;
            dueChangeBad(question, 1, -1);
            dueChange(question, 1, 0, rights[question]);
            dueChange(question, 1, choices - 1, rights[question]);
            dueChangeBad(question, 1, choices);
        }
        dueChangeBad(0, 1, MIN);
        dueChangeBad(0, 1, MAX);
    }

    private static void changeKeeps() {
        int[] greatest = {3, 7, 15};
        for (int question = 0; question < 3; question++) {
            dueChangeBad(question, 2, -1);
            dueChange(question, 2, 0, greatest[question]);
            dueChange(question, 2, greatest[question], greatest[question]);
            dueChangeBad(question, 2, greatest[question] + 1);
        }
        dueChangeBad(0, 2, MIN);
        dueChangeBad(0, 2, MAX);
    }

    private static void changeGroup() {
        dueChangeBad(0, 3, -1);
        dueChange(0, 3, 0, 0);
        dueChange(2, 3, 5, 0);
        dueChangeBad(2, 3, 6);
        dueChangeBad(0, 3, MIN);
        dueChangeBad(0, 3, MAX);
    }

    private static void changeWithSheets() {
        int[] good = {9, 1, 0, 5};
        for (int what = 0; what < 4; what++) {
            int changed = what;
            Twins.dueUnchanged("4: change with sheets", Made::threeWithSheets, STATE,
                    test -> test.change(0, changed, good[changed]));
        }
        // not even into what it is
        Twins.dueUnchanged("4: change(0, 0, 2) with sheets", Made::threeWithSheets, STATE, test -> test.change(0, 0, 2));
        TestVersions test = Made.three();
        test.guess(0, 0, 0);
        Check.due("4: with one sheet", test.change(0, 0, 9), STATE);
        test.forget();
        Check.due("4: without sheets again", test.change(0, 0, 9), 2);
    }

    // ---- promises 5 and 6

    private static void questionBesideTheRange() {
        Twins.dueUnchanged("5: question(0, 0) of none", Made::empty, BAD, test -> test.question(0, 0));
        for (int b : new int[] {-1, MIN, MAX}) {
            Twins.dueUnchanged("5: question(" + b + ", 0)", Made::three, BAD, test -> test.question(b, 0));
            Twins.dueUnchanged("5: question(0, " + b + ")", Made::three, BAD, test -> test.question(0, b));
        }
        Twins.dueUnchanged("5: question(3, 0) of 3", Made::three, BAD, test -> test.question(3, 0));
        Twins.dueUnchanged("5: question(0, 5)", Made::three, BAD, test -> test.question(0, 5));
        Twins.dueUnchanged("5: question(3, 5)", Made::three, BAD, test -> test.question(3, 5));
        Twins.dueUnchanged("5: question(2, 0)", Made::three, 4, test -> test.question(2, 0));
        Twins.dueUnchanged("5: question(2, 4)", Made::three, 4, test -> test.question(2, 4));
        Check.due("5: question(19, 4) of 20", Made.full().question(19, 4), 2);
        Check.due("5: question(20, 4) of 20", Made.full().question(20, 4), BAD);
    }

    private static void questionsFromNoneToTwenty() {
        Twins.dueUnchanged("6: none", Made::empty, 0, TestVersions::questions);
        Twins.dueUnchanged("6: 20", Made::full, 20, TestVersions::questions);
        TestVersions test = Made.questions(1);
        Check.due("6: one", test.questions(), 1);
        test.remove(0);
        Check.due("6: none again", test.questions(), 0);
        test.undo();
        Check.due("6: one again", test.questions(), 1);
    }
}
