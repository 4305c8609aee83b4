import java.util.function.Consumer;
import java.util.function.ToLongFunction;

/**
 * The edges of promises 31 and 32 and of the description's HISTORY and ERRORS, and what sheets lock: a test
 * for each sentence that names one. Fingerprints of more than a few numbers were worked out outside Java.
 */
public final class EdgesOfHistoryTest {
    private static final int BAD = TestVersions.BAD;
    private static final int STATE = TestVersions.STATE;
    private static final int FULL = TestVersions.FULL;
    private static final int NONE = TestVersions.NONE;
    private static final long THREE = -8812305028216146104L;
    private static final long THREE_WITH_SHEETS = 5396933325119948099L;

    private EdgesOfHistoryTest() {
    }

    public static void main(String[] args) {
        undoOfNone();
        undoOfOne();
        undoOfFive();
        theSixthActDropsTheOldest();
        theOldestIsDroppedAgainAndAgain();
        eachActAddsAState();
        anActThatLeavesAllAsItWas();
        undoIsNoAct();
        readsAreNoActs();
        refusedActsAddNoState();
        bufferIsNotInTheHistory();
        undoRestoresAll();
        undoBringsForgottenSheetsBack();
        undoAfterOtherActs();
        sheetsLockQuestionsAndVersions();
        sheetsLockNothingElse();
        undoLocksAndUnlocks();
        numbersOfTheConstants();
        fingerprintOfNothing();
        fingerprintOfNoQuestions();
        fingerprintOfNoVersionsAndNoSheets();
        fingerprintOfNoAnswers();
        fingerprintWithOverflow();
        fingerprintIsOfTheseNumbersAlone();
        theLastOf512Calls();
        Check.end("EdgesOfHistoryTest");
    }

    // ---- promise 31

    private static void undoOfNone() {
        Twins.dueUnchanged("31: undo() of a new object", Made::empty, NONE, TestVersions::undo);
        TestVersions test = new TestVersions();
        test.type('A');
        Check.due("31: a character is no act", test.undo(), NONE);
        Check.due("19: it stays", test.clear(), 1);
    }

    private static void undoOfOne() {
        TestVersions test = new TestVersions();
        test.add(4, 2, 0, 0, 0);
        Check.due("31: undo() of one", test.undo(), 0);
        Check.due("31: it is undone", test.questions(), 0);
        Check.due("31: undo() of none", test.undo(), NONE);
        Check.due("31: still nothing", test.questions(), 0);
        Check.due("2: the number is free", test.add(5, 2, 0, 0, 0), 0);
        Check.due("5: the new height", test.question(0, 0), 5);
    }

    private static void undoOfFive() {
        TestVersions test = Made.questions(5);
        for (int left = 4; left >= 0; left--) {
            Check.due("31: undo() of " + (left + 1), test.undo(), left);
            Check.due("31: questions left", test.questions(), left);
        }
        Check.due("31: undo() of none", test.undo(), NONE);
        Check.due("31: no questions left", test.questions(), 0);
    }

    private static void theSixthActDropsTheOldest() {
        TestVersions test = Made.questions(6);
        for (int left = 4; left >= 0; left--) {
            Check.due("31: undo() of six acts", test.undo(), left);
            Check.due("31: questions left of six", test.questions(), left + 1);
        }
        Check.due("31: the first act stays", test.undo(), NONE);
        Check.due("31: one question stays", test.questions(), 1);
    }

    private static void theOldestIsDroppedAgainAndAgain() {
        for (int acts = 1; acts <= 20; acts++) {
            TestVersions test = Made.questions(acts);
            int kept = Math.min(acts, 5);
            for (int left = kept - 1; left >= 0; left--) {
                Check.due("31: undo() after " + acts, test.undo(), left);
            }
            Check.due("31: undo() beyond, after " + acts, test.undo(), NONE);
            Check.due("31: questions that stay of " + acts, test.questions(), acts - kept);
        }
    }

    private static void dueAct(String call, long due, ToLongFunction<TestVersions> acting) {
        TestVersions test = Made.three();
        Made.type(test, "BCA");
        Check.due(call, acting.applyAsLong(test), due);
        Check.due(call + " adds the fifth state", test.undo(), 4);
        Check.due(call + " is undone", test.fingerprint(), THREE);
        Check.due(call + " leaves the others", test.undo(), 3);
        Check.due(call + ": before it came version()", test.versions(), 0);
        TestVersions full = Made.questions(5);
        full.version(0);
        Made.type(full, "AAAAA");
        long before = full.fingerprint();
        acting.applyAsLong(full);
        Check.due(call + " with five states drops the oldest", full.undo(), 4);
        Check.due(call + " with five states is undone", full.fingerprint(), before);
        for (int left = 3; left >= 0; left--) {
            full.undo();
        }
        Check.due(call + ": no more states", full.undo(), NONE);
        Check.due(call + ": the first two questions stay", full.questions(), 2);
    }

    private static void eachActAddsAState() {
        dueAct("2: add", 3, test -> test.add(1, 2, 0, 0, 0));
        dueAct("3: remove", 2, test -> test.remove(0));
        dueAct("4: change", 0, test -> test.change(0, 3, 5));
        dueAct("7: version", 1, test -> test.version(9));
        dueAct("8: drop", 0, TestVersions::drop);
        dueAct("15: setLines", 30, test -> test.setLines(9));
        dueAct("20: sheet", 0, test -> test.sheet(0));
        dueAct("21: guess", 0, test -> test.guess(0, 0, 0));
        dueAct("22: forget", 0, TestVersions::forget);
    }

    private static void anActThatLeavesAllAsItWas() {
        dueAct("4: change into the same value", 0, test -> test.change(0, 3, 0));
        dueAct("15: setLines to the same P", 30, test -> test.setLines(30));
        dueAct("22: forget of none", 0, TestVersions::forget);
    }

    private static void undoIsNoAct() {
        TestVersions test = Made.questions(3);
        Check.due("31: undo()", test.undo(), 2);
        Check.due("31: an undo is not undone", test.undo(), 1);
        Check.due("31: but the act before", test.questions(), 1);
        test.add(9, 2, 0, 0, 0);
        Check.due("31: the history goes on from there", test.undo(), 1);
        Check.due("31: one question", test.questions(), 1);
    }

    private static void dueNoAct(String call, Consumer<TestVersions> reading) {
        TestVersions test = Made.threeWithSheets();
        reading.accept(test);
        Check.due(call + " changes no number", test.fingerprint(), THREE_WITH_SHEETS);
        Check.due(call + " is no act", test.undo(), 4);
        Check.due(call + ": the second sheet is undone", test.result(1, 0), BAD);
        Check.due(call + ": the first sheet stays", test.result(0, 0), 0);
    }

    private static void readsAreNoActs() {
        dueNoAct("5: question", test -> test.question(0, 0));
        dueNoAct("6: questions", TestVersions::questions);
        dueNoAct("9: versions", TestVersions::versions);
        dueNoAct("10: at", test -> test.at(0, 0, 2));
        dueNoAct("11: where", test -> test.where(0, 0));
        dueNoAct("12: choice", test -> test.choice(0, 0, 0));
        dueNoAct("13: alike", test -> test.alike(0, 0, 2));
        dueNoAct("14: unlike", test -> test.unlike(0, 40));
        dueNoAct("16: pages", test -> test.pages(0));
        dueNoAct("17: page", test -> test.page(0, 0, 0));
        dueNoAct("18: type", test -> test.type('A'));
        dueNoAct("19: clear", TestVersions::clear);
        dueNoAct("23: result", test -> test.result(0, 4));
        dueNoAct("24: answer", test -> test.answer(1, 0));
        dueNoAct("25: about", test -> test.about(0, 3));
        dueNoAct("26: parting", test -> test.parting(0));
        dueNoAct("27: mean", TestVersions::mean);
        dueNoAct("28: sameWrong", test -> test.sameWrong(0, 1));
        dueNoAct("29: suspects", TestVersions::suspects);
        dueNoAct("30: mistaken", test -> test.mistaken(0, 0));
        dueNoAct("32: fingerprint", TestVersions::fingerprint);
    }

    private static void dueNoState(String call, long due, TestVersions test, ToLongFunction<TestVersions> acting) {
        long before = test.fingerprint();
        test.setLines(60);
        Check.due(call, acting.applyAsLong(test), due);
        Check.due(call + ": setLines is still the latest act", test.undo(), 4);
        Check.due(call + ": it is undone", test.setLines(60), 30);
        Check.due(call + ": the numbers are as before", test.fingerprint(), before);
    }

    private static void refusedActsAddNoState() {
        dueNoState("2: add BAD", BAD, Made.full(), test -> test.add(0, 2, 0, 0, 0));
        dueNoState("2: add STATE", STATE, Made.full(), test -> test.add(1, 2, 0, 0, 0));
        dueNoState("2: add FULL", FULL, Made.twentyQuestions(), test -> test.add(1, 2, 0, 0, 0));
        dueNoState("3: remove BAD", BAD, Made.full(), test -> test.remove(20));
        dueNoState("3: remove STATE", STATE, Made.full(), test -> test.remove(19));
        dueNoState("4: change BAD", BAD, Made.full(), test -> test.change(19, 0, 10));
        dueNoState("4: change STATE", STATE, Made.full(), test -> test.change(19, 0, 9));
        dueNoState("7: version STATE", STATE, Made.full(), test -> test.version(0));
        dueNoState("7: version FULL", FULL, Made.twentyQuestions(), test -> test.version(0));
        dueNoState("8: drop STATE with sheets", STATE, Made.full(), TestVersions::drop);
        dueNoState("8: drop STATE without versions", STATE, Made.questions(5), TestVersions::drop);
        dueNoState("15: setLines BAD", BAD, Made.full(), test -> test.setLines(61));
        dueNoState("20: sheet BAD", BAD, Made.full(), test -> test.sheet(6));
        dueNoState("20: sheet FULL", FULL, Made.full(), test -> test.sheet(5));
        dueNoState("20: sheet with an error place", -100, Made.twentyQuestions(), test -> test.sheet(5));
        dueNoState("21: guess BAD", BAD, Made.full(), test -> test.guess(0, 0, 11));
        dueNoState("21: guess FULL", FULL, Made.full(), test -> test.guess(0, 0, 10));
    }

    private static void bufferIsNotInTheHistory() {
        TestVersions test = Made.three();
        test.type('B');
        test.setLines(9);
        test.type('C');
        test.undo();
        Check.due("31: both characters stay", test.type('A'), 3);
        Check.due("20: BCA", test.sheet(0), 0);
        test.undo();
        Check.due("31: undo of sheet leaves the buffer empty", test.clear(), 0);
        Made.hand(test, 0, "BCA");
        test.type('?');
        test.undo();
        Check.due("31: a character typed after the sheet stays", test.clear(), 1);
        Made.type(test, Made.TWENTY_SIGNS);
        test.forget();
        test.undo();
        Check.due("31: a full buffer stays full", test.type('A'), FULL);
        test.clear();
        test.undo();
        Check.due("31: a cleared one stays empty", test.clear(), 0);
    }

    private static void undoRestoresAll() {
        TestVersions test = Made.threeWithSheets();
        test.forget();
        test.remove(1);
        test.drop();
        test.setLines(9);
        Check.due("31: P", test.undo(), 4);
        Check.due("31: the version", test.undo(), 3);
        Check.due("31: with its seed", test.at(0, 0, 0), 1);
        Check.due("31: the question", test.undo(), 2);
        Check.due("31: with its height", test.question(1, 0), 3);
        Check.due("31: the sheets", test.undo(), 1);
        Check.due("31: all numbers", test.fingerprint(), THREE_WITH_SHEETS);
        Check.due("31: P is 30 again", test.setLines(60), 30);
        Check.due("31: answers by places, too", test.mistaken(1, 0), -2);
    }

    /** Two sheets, "BCA" and "AD-", are forgotten, and two others of another version take their numbers. */
    private static void undoBringsForgottenSheetsBack() {
        TestVersions test = Made.threeWithSheets();
        test.clear();
        test.forget();
        test.version(5);
        Made.hand(test, 1, "---");
        Made.hand(test, 1, "BDC");
        Check.due("23: all wrong in the order 0 2 1", test.result(1, 1), -3);
        Check.due("31: undo of a sheet", test.undo(), 4);
        Check.due("31: undo of the other sheet", test.undo(), 3);
        Check.due("31: undo of version()", test.undo(), 2);
        Check.due("31: undo of forget()", test.undo(), 1);
        int[][] due = {{0, 12, 3, 0, 1}, {0, -2, 0, 2, 2}};
        for (int s = 0; s < 2; s++) {
            for (int what = 0; what < 5; what++) {
                Check.due("31: result(" + s + ", " + what + ") is back", test.result(s, what), due[s][what]);
            }
        }
        Check.due("31: the answers are back", test.answer(1, 2), 3);
        Check.due("31: the answers are back", test.answer(0, 0), 0);
        Check.due("31: none is none again", test.answer(1, 0), NONE);
        Check.due("31: the places are back", test.mistaken(0, 0), 12);
        Check.due("31: the places are back", test.mistaken(1, 0), -2);
        Check.due("31: all numbers are back", test.fingerprint(), THREE_WITH_SHEETS);
    }

    /** What an undone act left behind must not shine through what comes instead. */
    private static void undoAfterOtherActs() {
        TestVersions test = Made.three();
        test.guess(0, 0, 10);
        test.undo();
        test.change(2, 1, 0);
        Check.due("31: the key fits the change", test.at(0, 1, 1), 0);
        Made.hand(test, 0, "BAA");
        Check.due("31: graded by the new key", test.result(0, 1), 12);
        test.undo();
        test.undo();
        Check.due("31: the key before", test.at(0, 1, 1), 2);
        Made.hand(test, 0, "BAA");
        Check.due("31: graded by the key before", test.result(0, 1), 7);
        test.undo();
        test.drop();
        test.version(5);
        Check.due("31: another seed at the same number", test.at(0, 0, 0), 0);
        test.undo();
        test.undo();
        Check.due("31: the seed before", test.at(0, 0, 0), 1);
    }

    // ---- what sheets lock

    private static void dueLocked(TestVersions test, boolean locked) {
        Check.due("2: add", test.add(1, 2, 0, 0, 0), locked ? STATE : 3);
        Check.due("4: change", test.change(0, 0, 9), locked ? STATE : 2);
        Check.due("3: remove", test.remove(2), locked ? STATE : 3);
        Check.due("7: version", test.version(7), locked ? STATE : 1);
        Check.due("8: drop", test.drop(), locked ? STATE : 7);
    }

    private static void sheetsLockQuestionsAndVersions() {
        dueLocked(Made.three(), false);
        TestVersions one = Made.three();
        one.guess(0, 0, 0);
        dueLocked(one, true);
        TestVersions typed = Made.three();
        Made.hand(typed, 0, "---");
        dueLocked(typed, true);
        dueLocked(Made.twentySheets(), true);
        one.forget();
        dueLocked(one, false);
    }

    private static void sheetsLockNothingElse() {
        TestVersions test = Made.threeWithSheets();
        Check.due("18: type", test.type('C'), 2);
        Check.due("15: setLines", test.setLines(9), 30);
        test.type('A');
        Check.due("20: sheet", test.sheet(0), 2);
        Check.due("21: guess", test.guess(0, 0, 10), 3);
        Check.due("14: unlike", test.unlike(3, 1), 3);
        Check.due("19: clear", test.clear(), 0);
        Check.due("31: undo", test.undo(), 4);
        Check.due("22: forget", test.forget(), 3);
    }

    private static void undoLocksAndUnlocks() {
        TestVersions test = Made.three();
        test.guess(0, 0, 0);
        test.undo();
        dueLocked(test, false);
        TestVersions forgotten = Made.threeWithSheets();
        forgotten.forget();
        forgotten.undo();
        dueLocked(forgotten, true);
        forgotten.undo();
        dueLocked(forgotten, true);
        forgotten.undo();
        dueLocked(forgotten, false);
    }

    private static void numbersOfTheConstants() {
        Check.due("BAD", BAD, -1001);
        Check.due("STATE", STATE, -1002);
        Check.due("FULL", FULL, -1003);
        Check.due("NONE", NONE, -1009);
    }

    // ---- promise 32

    private static void fingerprintOfNothing() {
        // 181, then 0 questions, 0 versions, 0 sheets: 181 * 31 * 31 * 31
        Twins.dueUnchanged("32: of a new object", Made::empty, 5392171L, TestVersions::fingerprint);
    }

    private static void fingerprintOfNoQuestions() {
        TestVersions test = new TestVersions();
        test.version(0);
        // 0 questions, 1 version, its 0 pages, 0 sheets: ((181 * 31 * 31 + 1) * 31 + 0) * 31
        Check.due("32: a version of no questions", test.fingerprint(), 167158262L);
        test.sheet(0);
        // then 1 sheet with 0, 0, 0, 0 and the rank 1
        Check.due("32: a sheet of no questions", test.fingerprint(), 4785599152324714L);
    }

    private static void fingerprintOfNoVersionsAndNoSheets() {
        TestVersions test = new TestVersions();
        test.add(9, 5, 4, 31, 5);
        long due = 181L * 31 + 1;
        for (int number : new int[] {9, 4, 31, 5, 5, 0, 0}) {
            due = due * 31 + number;
        }
        Check.due("32: a question alone", test.fingerprint(), due);
        Check.due("32: three questions and a version", Made.three().fingerprint(), THREE);
    }

    private static void fingerprintOfNoAnswers() {
        Check.due("32: an answer that is none counts -1009", Made.threeWithSheets().fingerprint(), THREE_WITH_SHEETS);
    }

    private static TestVersions rich() {
        TestVersions test = new TestVersions();
        for (int i = 0; i < 20; i++) {
            test.add(1 + i * 5 % 9, 2 + i % 4, i % 2, i % 4, i % 6);
        }
        test.setLines(17);
        return test;
    }

    private static void fingerprintWithOverflow() {
        Twins.dueUnchanged("32: when all is full", Made::full, 2362499000048396606L, TestVersions::fingerprint);
        Check.due("32: without sheets", Made.twentyQuestions().fingerprint(), -8937761791368726439L);
        TestVersions test = rich();
        Check.due("32: 20 questions", test.fingerprint(), -189630453030722684L);
        int[] seeds = {Integer.MIN_VALUE, Integer.MAX_VALUE, -1, 0, 5, 1000};
        for (int seed : seeds) {
            test.version(seed);
        }
        Check.due("32: 20 questions, 6 versions", test.fingerprint(), 7507857387090876747L);
        for (int s = 0; s < 20; s++) {
            test.guess(s % 6, s * 1000 - 7, s % 11);
        }
        Check.due("32: 20 questions, 6 versions, 20 sheets", test.fingerprint(), -252462504813137822L);
    }

    private static void fingerprintIsOfTheseNumbersAlone() {
        TestVersions test = Made.three();
        test.type('B');
        Check.due("32: not of the buffer", test.fingerprint(), THREE);
        // 9 lines are one page, as with 30
        test.setLines(9);
        Check.due("32: not of P by itself", test.fingerprint(), THREE);
        test.undo();
        test.undo();
        test.version(0);
        Check.due("32: not of the history", test.fingerprint(), THREE);
    }

    // ---- an object is used for at most 512 calls

    private static void theLastOf512Calls() {
        TestVersions lines = new TestVersions();
        for (int call = 1; call < 512; call++) {
            lines.setLines(9 + call % 52);
        }
        // call 511 set 9 + 43, call 510 set 9 + 42
        Check.due("15: call 512", lines.setLines(60), 52);
        TestVersions undone = new TestVersions();
        for (int call = 1; call < 511; call += 2) {
            Check.due("2: call " + call, undone.add(1, 2, 0, 0, 0), 0);
            Check.due("31: call " + (call + 1), undone.undo(), 0);
        }
        undone.add(1, 2, 0, 0, 0);
        Check.due("31: call 512", undone.undo(), 0);
        TestVersions dear = Made.twentyQuestions();
        for (int call = 27; call < 512; call++) {
            Check.due("14: call " + call, dear.unlike(call, 40), call);
        }
        Check.due("32: call 512", dear.fingerprint(), -8937761791368726439L);
    }
}
