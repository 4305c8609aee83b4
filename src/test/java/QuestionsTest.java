/** Promises 1 to 6: a new object and its questions. */
public final class QuestionsTest {
    private static final int BAD = TestVersions.BAD;
    private static final int STATE = TestVersions.STATE;
    private static final int FULL = TestVersions.FULL;
    private static final int NONE = TestVersions.NONE;

    private QuestionsTest() {
    }

    public static void main(String[] args) {
        newObject();
        addNumbersThem();
        addRefuses();
        addOrdersItsErrors();
        removeMovesTheLater();
        removeRefuses();
        changeAnswersThePrevious();
        changeRefuses();
        questionTellsAll();
        Check.end("QuestionsTest");
    }

    private static TestVersions three() {
        TestVersions test = new TestVersions();
        test.add(5, 4, 2, 9, 3);
        test.add(1, 2, 0, 0, 0);
        test.add(9, 5, 4, 31, 5);
        return test;
    }

    private static void newObject() {
        TestVersions test = new TestVersions();
        Check.due("1: questions()", test.questions(), 0);
        Check.due("1: versions()", test.versions(), 0);
        Check.due("1: forget() tells the sheets", test.forget(), 0);
        Check.due("1: undo() of forget", test.undo(), 0);
        Check.due("1: undo() without acts", test.undo(), NONE);
        Check.due("1: clear()", test.clear(), 0);
        Check.dueFloat("1: mean()", test.mean(), 0);
        Check.due("1: suspects()", test.suspects(), NONE);
        Check.due("1: fingerprint()", test.fingerprint(), 181L * 31 * 31 * 31);
        Check.due("1: P at first", test.setLines(9), 30);
        Check.due("1: another object is its own", new TestVersions().setLines(10), 30);
    }

    private static void addNumbersThem() {
        TestVersions test = new TestVersions();
        for (int i = 0; i < 20; i++) {
            Check.due("2: add number " + i, test.add(1 + i % 9, 2 + i % 4, i % 2, i % 4, i % 6), i);
            Check.due("6: questions() after " + i, test.questions(), i + 1);
        }
        Check.due("2: add beyond 20", test.add(1, 2, 0, 0, 0), FULL);
        Check.due("6: questions() when full", test.questions(), 20);
    }

    private static void addRefuses() {
        TestVersions test = new TestVersions();
        int[][] bad = {
            {0, 2, 0, 0, 0}, {10, 2, 0, 0, 0}, {-1, 2, 0, 0, 0}, {1, 1, 0, 0, 0}, {1, 6, 0, 0, 0}, {1, 0, 0, 0, 0},
            {1, 2, 2, 0, 0}, {1, 2, -1, 0, 0}, {1, 5, 5, 0, 0}, {1, 2, 0, 4, 0}, {1, 2, 0, -1, 0}, {1, 5, 0, 32, 0},
            {1, 3, 0, 8, 0}, {1, 2, 0, 0, 6}, {1, 2, 0, 0, -1}, {1, 32, 0, 0, 0}, {1, 33, 0, 1, 0},
            {Integer.MIN_VALUE, 2, 0, 0, 0}, {1, Integer.MAX_VALUE, 0, 0, 0}, {1, Integer.MIN_VALUE, 0, 0, 0}};
        for (int[] b : bad) {
            String call = "2: add(" + b[0] + ", " + b[1] + ", " + b[2] + ", " + b[3] + ", " + b[4] + ")";
            Check.due(call, test.add(b[0], b[1], b[2], b[3], b[4]), BAD);
        }
        Check.due("2: a refused add is no act", test.undo(), NONE);
        int[][] good = {{1, 2, 1, 3, 5}, {9, 5, 4, 31, 0}, {5, 3, 2, 7, 1}, {5, 4, 3, 15, 1}};
        for (int i = 0; i < good.length; i++) {
            int[] g = good[i];
            Check.due("2: add at the edge, row " + i, test.add(g[0], g[1], g[2], g[3], g[4]), i);
        }
        Check.due("2: an add is an act", test.undo(), 3);
        Check.due("2: it is undone", test.questions(), 3);
    }

    private static void addOrdersItsErrors() {
        TestVersions test = new TestVersions();
        for (int i = 0; i < 20; i++) {
            test.add(1, 2, 0, 0, 0);
        }
        test.version(0);
        test.guess(0, 0, 0);
        Check.due("2: BAD before STATE and FULL", test.add(0, 2, 0, 0, 0), BAD);
        Check.due("2: STATE before FULL", test.add(1, 2, 0, 0, 0), STATE);
        test.forget();
        Check.due("2: BAD before FULL", test.add(1, 2, 0, 0, 6), BAD);
        Check.due("2: FULL", test.add(1, 2, 0, 0, 0), FULL);
    }

    private static void dueNumbers(String when, TestVersions test, int question, int... numbers) {
        for (int what = 0; what < numbers.length; what++) {
            Check.due(when + ": question(" + question + ", " + what + ")", test.question(question, what), numbers[what]);
        }
    }

    private static void removeMovesTheLater() {
        TestVersions test = three();
        Check.due("3: remove(0)", test.remove(0), 2);
        Check.due("6: questions() then", test.questions(), 2);
        dueNumbers("3: after remove(0)", test, 0, 1, 0, 0, 0, 2);
        dueNumbers("3: after remove(0)", test, 1, 9, 4, 31, 5, 5);
        Check.due("3: remove of the last", test.remove(1), 1);
        dueNumbers("3: after remove(1)", test, 0, 1, 0, 0, 0, 2);
        Check.due("3: remove of the only one", test.remove(0), 0);
        Check.due("3: it is an act", test.undo(), 4);
        Check.due("3: and again", test.undo(), 3);
        Check.due("3: and again", test.undo(), 2);
        dueNumbers("3: restored", test, 0, 5, 2, 9, 3, 4);
        Check.due("3: all are back", test.questions(), 3);

        TestVersions middle = three();
        Check.due("3: remove(1)", middle.remove(1), 2);
        dueNumbers("3: the first stays", middle, 0, 5, 2, 9, 3, 4);
        dueNumbers("3: the last moves", middle, 1, 9, 4, 31, 5, 5);

        TestVersions all = new TestVersions();
        for (int i = 0; i < 20; i++) {
            all.add(1 + i % 9, 2, 0, 0, 0);
        }
        Check.due("3: remove(3) of 20", all.remove(3), 19);
        Check.due("3: the last of 20 moved", all.question(18, 0), 1 + 19 % 9);
        Check.due("3: there is room again", all.add(7, 2, 0, 0, 0), 19);
    }

    private static void removeRefuses() {
        TestVersions test = three();
        for (int question : new int[] {-1, 3, 20, Integer.MAX_VALUE, Integer.MIN_VALUE}) {
            Check.due("3: remove(" + question + ")", test.remove(question), BAD);
        }
        test.version(1);
        test.guess(0, 1, 1);
        Check.due("3: BAD before STATE", test.remove(3), BAD);
        Check.due("3: STATE with sheets", test.remove(2), STATE);
        Check.due("3: refused calls were no acts", test.undo(), 4);
        Check.due("3: no sheets any more", test.remove(2), 2);
    }

    private static void changeAnswersThePrevious() {
        TestVersions test = three();
        Check.due("4: change(0, 0, 9)", test.change(0, 0, 9), 5);
        Check.due("4: change(0, 0, 1)", test.change(0, 0, 1), 9);
        Check.due("4: change(0, 1, 3)", test.change(0, 1, 3), 2);
        Check.due("4: change(0, 2, 15)", test.change(0, 2, 15), 9);
        Check.due("4: change(0, 3, 0)", test.change(0, 3, 0), 3);
        dueNumbers("4: changed", test, 0, 1, 3, 15, 0, 4);
        dueNumbers("4: another one", test, 1, 1, 0, 0, 0, 2);
        Check.due("4: it is an act, of which 5 are kept", test.undo(), 4);
        dueNumbers("4: undone", test, 0, 1, 3, 15, 3, 4);
        Check.due("4: the same value", test.change(0, 1, 3), 3);
        Check.due("4: that is an act, too", test.undo(), 4);
        Check.due("4: of the last question", test.change(2, 3, 1), 5);
    }

    private static void changeRefuses() {
        TestVersions test = three();
        int[][] bad = {
            {-1, 0, 1}, {3, 0, 1}, {0, -1, 1}, {0, 4, 4}, {0, 4, 2}, {0, 5, 1}, {0, 0, 0}, {0, 0, 10}, {0, 1, -1},
            {0, 1, 4}, {1, 1, 2}, {2, 1, 5}, {0, 2, -1}, {0, 2, 16}, {1, 2, 4}, {2, 2, 32}, {0, 3, -1}, {0, 3, 6},
            {Integer.MIN_VALUE, 0, 1}, {0, Integer.MAX_VALUE, 1}, {0, 0, Integer.MAX_VALUE}, {0, 2, Integer.MIN_VALUE}};
        for (int[] b : bad) {
            Check.due("4: change(" + b[0] + ", " + b[1] + ", " + b[2] + ")", test.change(b[0], b[1], b[2]), BAD);
        }
        dueNumbers("4: nothing changed", test, 0, 5, 2, 9, 3, 4);
        test.version(1);
        test.guess(0, 1, 1);
        Check.due("4: BAD before STATE", test.change(0, 0, 10), BAD);
        Check.due("4: STATE with sheets", test.change(0, 0, 9), STATE);
        dueNumbers("4: nothing changed with sheets", test, 0, 5, 2, 9, 3, 4);
        Check.due("4: refused calls were no acts", test.undo(), 4);
    }

    private static void questionTellsAll() {
        TestVersions test = three();
        dueNumbers("5", test, 0, 5, 2, 9, 3, 4);
        dueNumbers("5", test, 1, 1, 0, 0, 0, 2);
        dueNumbers("5", test, 2, 9, 4, 31, 5, 5);
        Check.due("5: question(0, 5)", test.question(0, 5), BAD);
        Check.due("5: question(0, -1)", test.question(0, -1), BAD);
        Check.due("5: question(3, 0)", test.question(3, 0), BAD);
        Check.due("5: question(-1, 4)", test.question(-1, 4), BAD);
        Check.due("5: it is no act", test.undo(), 2);
    }
}
