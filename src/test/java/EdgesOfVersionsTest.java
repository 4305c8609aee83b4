/**
 * The edges of promises 7 to 14 and of the description's LOTS and VERSIONS: a test for each sentence that
 * names one. The lots before "modulo" that are used, worked out by hand as the upper 16 bits of x:
 * seed 0: 0, 54236, 42756; seed 5: 18655, 41225, 10616; seed -1: 48697, 4409, 9862;
 * seed 2147483647: 15929, 37177, 42630; seed -2147483648: 32768, 21468, 9988.
 */
public final class EdgesOfVersionsTest {
    private static final int BAD = TestVersions.BAD;
    private static final int STATE = TestVersions.STATE;
    private static final int FULL = TestVersions.FULL;
    private static final int NONE = TestVersions.NONE;
    private static final int MIN = Integer.MIN_VALUE;
    private static final int MAX = Integer.MAX_VALUE;
    private static final long NO_SEED = -4611686018427387905L;

    private EdgesOfVersionsTest() {
    }

    public static void main(String[] args) {
        lotsGoOnWithOverflow();
        lotIsANumberFromZeroOn();
        rowOfNoThings();
        rowOfOneThing();
        unitWithOneQuestionHasNoLots();
        questionWithOneChoiceToMixHasNoLots();
        noneAllOrAllButTwoKeep();
        aVersionFitsNoQuestionsToo();
        versionTakesAnySeed();
        versionBeyondSix();
        versionWithSheets();
        dropTellsAnySeed();
        dropWithoutVersions();
        dropWithSheets();
        dropOfSixAndOfOne();
        versionsFromNoneToSix();
        atBesideTheRange();
        atTheFirstAndTheLastPlace();
        whereBesideTheRange();
        choiceBesideTheRange();
        choiceOfTwoToFive();
        alikeBesideTheRange();
        alikeOfNoAndOfOneQuestion();
        alikeOfTwenty();
        unlikeManyIsOneToForty();
        unlikeLooksAtNoSeedMore();
        unlikeTellsTheFirstOfSeveral();
        unlikeGoesOnWithOverflow();
        unlikeWithoutVersions();
        unlikeOfTheGreatestOverAllVersions();
        unlikeOfNineteenAndOfTwenty();
        unlikeWithSixVersionsAndSheets();
        Check.end("EdgesOfVersionsTest");
    }

    private static void dueOrder(String name, TestVersions test, int version, int... questions) {
        for (int place = 0; place < questions.length; place++) {
            Check.due(name + ": at(" + version + ", " + place + ", 0)", test.at(version, place, 0), questions[place]);
            Check.due(name + ": where(" + version + ", " + questions[place] + ")",
                    test.where(version, questions[place]), place);
        }
        Check.due(name + ": no place more", test.at(version, questions.length, 0), BAD);
    }

    private static void dueChoices(String name, TestVersions test, int place, int... choices) {
        for (int k = 0; k < choices.length; k++) {
            Check.due(name + ": choice(0, " + place + ", " + k + ")", test.choice(0, place, k), choices[k]);
        }
        Check.due(name + ": no choice more", test.choice(0, place, choices.length), BAD);
    }

    // ---- lots

    private static TestVersions mixedBy(int seed) {
        TestVersions test = Made.questions(3);
        test.version(seed);
        return test;
    }

    /** For three units a lot of 3 for the last place, then a lot of 2 for the one before. */
    private static void lotsGoOnWithOverflow() {
        // 15929 % 3 = 2 and 37177 % 2 = 1: nothing moves
        dueOrder("7: the greatest seed", mixedBy(MAX), 0, 0, 1, 2);
        // 32768 % 3 = 2 and 21468 % 2 = 0: the first two are exchanged
        dueOrder("7: the smallest seed", mixedBy(MIN), 0, 1, 0, 2);
        // 18655 % 3 = 1 exchanges the last two, 41225 % 2 = 1
        dueOrder("7: seed 5", mixedBy(5), 0, 0, 2, 1);
    }

    /** 48697 % 3 = 1 exchanges the last two, 4409 % 2 = 1; as a short 48697 would be -16839, with a lot of 0. */
    private static void lotIsANumberFromZeroOn() {
        dueOrder("7: the upper bit of x is 1", mixedBy(-1), 0, 0, 2, 1);
    }

    private static void rowOfNoThings() {
        TestVersions test = Made.questions(0);
        Check.due("7: a version of no questions", test.version(0), 0);
        dueOrder("7: no questions", test, 0);
        Check.due("11: no questions", test.where(0, 0), BAD);
        Check.due("12: no questions", test.choice(0, 0, 0), BAD);
    }

    /** No lot for the only unit, so the first lot of the seed 0, a 0, exchanges the two choices. */
    private static void rowOfOneThing() {
        TestVersions test = new TestVersions();
        test.add(1, 2, 0, 0, 0);
        test.version(0);
        dueOrder("7: one question", test, 0, 0);
        dueChoices("12: the first lot of seed 0", test, 0, 1, 0);
        test.drop();
        test.version(5);
        dueChoices("12: the first lot of seed 5 is 18655", test, 0, 0, 1);
    }

    /** 18655 leaves the units, then 41225 % 2 = 1 leaves the choices of 0, and 10616 % 2 = 0 exchanges those of 1. */
    private static void unitWithOneQuestionHasNoLots() {
        TestVersions test = new TestVersions();
        test.add(1, 2, 0, 0, 0);
        test.add(1, 2, 0, 0, 5);
        test.version(5);
        dueOrder("7: two units of one", test, 0, 0, 1);
        dueChoices("12: second lot of seed 5", test, 0, 0, 1);
        dueChoices("12: third lot of seed 5", test, 1, 1, 0);
        Check.due("10: key of 0", test.at(0, 0, 1), 0);
        Check.due("10: key of 1", test.at(0, 1, 1), 1);
    }

    /** 15929 % 2 = 1 leaves the unit of two, no lot for the choices of 0, 37177 % 2 = 1 leaves those of 1. */
    private static void questionWithOneChoiceToMixHasNoLots() {
        for (int keeps = 1; keeps <= 3; keeps++) {
            TestVersions test = new TestVersions();
            test.add(1, 2, 0, keeps, 1);
            test.add(1, 2, 0, 0, 1);
            test.version(MAX);
            dueOrder("7: kept set " + keeps, test, 0, 0, 1);
            dueChoices("12: at most one is left to mix, kept set " + keeps, test, 0, 0, 1);
            dueChoices("12: second lot, kept set " + keeps, test, 1, 0, 1);
        }
        TestVersions test = new TestVersions();
        test.add(1, 2, 0, 0, 1);
        test.add(1, 2, 0, 0, 1);
        test.version(MAX);
        dueChoices("12: second lot, none kept", test, 0, 0, 1);
        // 42630 % 2 = 0
        dueChoices("12: third lot, none kept", test, 1, 1, 0);
    }

    /** Seed 0: a lot of 0 exchanges the only two choices that do not keep their places, from bit 0 to bit 4. */
    private static void noneAllOrAllButTwoKeep() {
        for (int a = 0; a < 5; a++) {
            for (int b = a + 1; b < 5; b++) {
                TestVersions test = new TestVersions();
                test.add(1, 5, a, 31 - (1 << a) - (1 << b), 0);
                test.version(0);
                int[] choices = {0, 1, 2, 3, 4};
                choices[a] = b;
                choices[b] = a;
                dueChoices("12: all but " + a + " and " + b + " keep", test, 0, choices);
                Check.due("10: the right choice " + a + " moved", test.at(0, 0, 1), b);
            }
        }
        TestVersions test = new TestVersions();
        test.add(1, 5, 4, 31, 0);
        test.version(0);
        dueChoices("12: all keep", test, 0, 0, 1, 2, 3, 4);
        Check.due("10: key when all keep", test.at(0, 0, 1), 4);
        test.change(0, 2, 0);
        // lots 0 of 5, 54236 % 4 = 0, 42756 % 3 = 0, 54885 % 2 = 1:
        // 4 1 2 3 0, then 3 1 2 4 0, then 2 1 3 4 0, and no more
        dueChoices("12: none keeps", test, 0, 2, 1, 3, 4, 0);
        Check.due("10: key when none keeps", test.at(0, 0, 1), 3);
    }

    private static void aVersionFitsNoQuestionsToo() {
        TestVersions test = new TestVersions();
        test.version(MIN);
        for (int i = 0; i < 3; i++) {
            test.add(1, 2, 0, 3, 0);
        }
        dueOrder("7: the version was there before its questions", test, 0, 1, 0, 2);
        test.remove(2);
        // 32768 % 2 = 0
        dueOrder("7: two are left", test, 0, 1, 0);
        test.remove(0);
        dueOrder("7: one is left", test, 0, 0);
        test.remove(0);
        dueOrder("7: none is left", test, 0);
        Check.due("9: the version stays", test.versions(), 1);
    }

    // ---- promises 7 to 9

    private static void versionTakesAnySeed() {
        for (int seed : new int[] {0, -1, 1, MIN, MAX, BAD, STATE, FULL, NONE}) {
            TestVersions test = new TestVersions();
            Check.due("7: version(" + seed + ")", test.version(seed), 0);
            Check.due("8: drop() of " + seed, test.drop(), seed);
            Check.due("8: it is an act whatever the seed", test.undo(), 1);
            Check.due("8: undone", test.versions(), 1);
        }
    }

    private static void versionBeyondSix() {
        TestVersions test = new TestVersions();
        for (int v = 0; v < 6; v++) {
            Check.due("7: version number " + v, test.version(7), v);
        }
        Check.due("7: a seventh", test.version(7), FULL);
        Check.due("8: one less", test.drop(), 7);
        Check.due("7: the sixth again", test.version(8), 5);
        Check.due("7: a seventh again", test.version(7), FULL);
        Twins.dueUnchanged("7: version(9) with six", Made::sixVersions, FULL, six -> six.version(9));
    }

    private static void versionWithSheets() {
        Twins.dueUnchanged("7: version(9) with sheets", Made::threeWithSheets, STATE, test -> test.version(9));
        Twins.dueUnchanged("7: STATE before FULL", Made::full, STATE, test -> test.version(9));
        TestVersions test = Made.three();
        test.guess(0, 0, 0);
        Check.due("7: with one sheet", test.version(9), STATE);
        test.forget();
        Check.due("7: without sheets again", test.version(9), 1);
    }

    private static void dropTellsAnySeed() {
        TestVersions test = new TestVersions();
        test.version(MIN);
        test.version(MAX);
        test.version(-1);
        Check.due("8: a negative seed stays negative", test.drop(), -1L);
        Check.due("8: the greatest seed", test.drop(), 2147483647L);
        Check.due("8: the smallest seed", test.drop(), -2147483648L);
    }

    private static void dropWithoutVersions() {
        Twins.dueUnchanged("8: drop() of none", Made::empty, STATE, TestVersions::drop);
        Twins.dueUnchanged("8: drop() of none, with questions", () -> Made.questions(20), STATE, TestVersions::drop);
        TestVersions test = Made.three();
        Check.due("8: drop() of one", test.drop(), 0);
        Check.due("8: drop() of none then", test.drop(), STATE);
        Check.due("10: no version then", test.at(0, 0, 0), BAD);
    }

    private static void dropWithSheets() {
        Twins.dueUnchanged("8: drop() with sheets", Made::threeWithSheets, STATE, TestVersions::drop);
        Twins.dueUnchanged("8: drop() when all is full", Made::full, STATE, TestVersions::drop);
        TestVersions test = Made.sixVersions();
        test.guess(0, 0, 0);
        Check.due("8: with a sheet of another version", test.drop(), STATE);
        test.forget();
        Check.due("8: without sheets again", test.drop(), 5);
    }

    private static void dropOfSixAndOfOne() {
        TestVersions test = Made.sixVersions();
        for (int seed = 5; seed >= 0; seed--) {
            Check.due("8: drop() of the last version", test.drop(), seed);
            Check.due("9: versions() then", test.versions(), seed);
            Check.due("16: no version " + seed, test.pages(seed), BAD);
        }
        Check.due("8: drop() of none", test.drop(), STATE);
    }

    private static void versionsFromNoneToSix() {
        Twins.dueUnchanged("9: none", Made::empty, 0, TestVersions::versions);
        Twins.dueUnchanged("9: one", Made::three, 1, TestVersions::versions);
        Twins.dueUnchanged("9: six", Made::full, 6, TestVersions::versions);
    }

    // ---- promises 10 to 12

    private static void dueBadAt(int version, int place, int what) {
        Twins.dueUnchanged("10: at(" + version + ", " + place + ", " + what + ")", Made::threeWithSheets, BAD,
                test -> test.at(version, place, what));
    }

    private static void atBesideTheRange() {
        for (int b : new int[] {-1, MIN, MAX}) {
            dueBadAt(b, 0, 0);
            dueBadAt(0, b, 0);
            dueBadAt(0, 0, b);
            dueBadAt(b, b, b);
        }
        dueBadAt(1, 0, 0);
        dueBadAt(0, 3, 0);
        dueBadAt(0, 0, 4);
        dueBadAt(1, 3, 4);
        TestVersions none = Made.questions(3);
        Check.due("10: without versions", none.at(0, 0, 0), BAD);
        TestVersions full = Made.full();
        Check.due("10: no version 6", full.at(6, 0, 0), BAD);
        Check.due("10: no place 20", full.at(5, 20, 0), BAD);
        Check.due("10: the last place of all", full.at(5, 19, 0), 15);
        Twins.dueUnchanged("10: at(0, 2, 3)", Made::threeWithSheets, 7, test -> test.at(0, 2, 3));
    }

    /** The order is 1, 2, 0 with the heights 3, 4, 2; on 9 lines all is one page. */
    private static void atTheFirstAndTheLastPlace() {
        TestVersions test = Made.three();
        test.setLines(9);
        int[][] due = {{1, 1, 0, 0}, {2, 2, 0, 3}, {0, 0, 0, 7}};
        for (int place = 0; place < 3; place++) {
            for (int what = 0; what < 4; what++) {
                Check.due("10: at(0, " + place + ", " + what + ")", test.at(0, place, what), due[place][what]);
            }
        }
        test.change(0, 0, 3);
        // 10 lines on 9: a page with 3 alone and one with 4 + 3
        Check.due("10: the first place is alone", test.at(0, 0, 2), 0);
        Check.due("10: the second place", test.at(0, 1, 2), 1);
        Check.due("10: begins the page", test.at(0, 1, 3), 0);
        Check.due("10: the last place", test.at(0, 2, 2), 1);
        Check.due("10: begins behind it", test.at(0, 2, 3), 4);
    }

    private static void whereBesideTheRange() {
        for (int b : new int[] {-1, MIN, MAX}) {
            Twins.dueUnchanged("11: where(" + b + ", 0)", Made::threeWithSheets, BAD, test -> test.where(b, 0));
            Twins.dueUnchanged("11: where(0, " + b + ")", Made::threeWithSheets, BAD, test -> test.where(0, b));
        }
        Twins.dueUnchanged("11: where(1, 0)", Made::threeWithSheets, BAD, test -> test.where(1, 0));
        Twins.dueUnchanged("11: where(0, 3)", Made::threeWithSheets, BAD, test -> test.where(0, 3));
        Twins.dueUnchanged("11: where(1, 3)", Made::threeWithSheets, BAD, test -> test.where(1, 3));
        Twins.dueUnchanged("11: where(0, 1)", Made::threeWithSheets, 0, test -> test.where(0, 1));
        Twins.dueUnchanged("11: where(0, 0)", Made::threeWithSheets, 2, test -> test.where(0, 0));
        Check.due("11: question 15 of version 5", Made.full().where(5, 15), 19);
        Check.due("11: no question 20", Made.full().where(5, 20), BAD);
        Check.due("11: no version 6", Made.full().where(6, 19), BAD);
    }

    private static void dueBadChoice(int version, int place, int k) {
        Twins.dueUnchanged("12: choice(" + version + ", " + place + ", " + k + ")", Made::threeWithSheets, BAD,
                test -> test.choice(version, place, k));
    }

    private static void choiceBesideTheRange() {
        for (int b : new int[] {-1, MIN, MAX}) {
            dueBadChoice(b, 0, 0);
            dueBadChoice(0, b, 0);
            dueBadChoice(0, 0, b);
            dueBadChoice(b, b, b);
        }
        dueBadChoice(1, 0, 0);
        dueBadChoice(0, 3, 0);
        dueBadChoice(0, 0, 3);
        dueBadChoice(0, 1, 4);
        dueBadChoice(0, 2, 2);
        dueBadChoice(1, 3, 5);
        Twins.dueUnchanged("12: choice(0, 1, 3)", Made::threeWithSheets, 3, test -> test.choice(0, 1, 3));
    }

    private static void choiceOfTwoToFive() {
        for (int choices = 2; choices <= 5; choices++) {
            TestVersions test = new TestVersions();
            test.add(1, choices, 0, (1 << choices) - 1, 0);
            test.version(choices);
            Check.due("12: before the first of " + choices, test.choice(0, 0, -1), BAD);
            Check.due("12: the first of " + choices, test.choice(0, 0, 0), 0);
            Check.due("12: the last of " + choices, test.choice(0, 0, choices - 1), choices - 1);
            Check.due("12: behind the last of " + choices, test.choice(0, 0, choices), BAD);
        }
    }

    // ---- promise 13

    private static void dueBadAlike(int v, int w, int what) {
        Twins.dueUnchanged("13: alike(" + v + ", " + w + ", " + what + ")", Made::sixVersions, BAD,
                test -> test.alike(v, w, what));
    }

    private static void alikeBesideTheRange() {
        for (int b : new int[] {-1, 6, MIN, MAX}) {
            for (int what = 0; what < 3; what++) {
                dueBadAlike(b, 0, what);
                dueBadAlike(0, b, what);
                dueBadAlike(b, b, what);
            }
            dueBadAlike(0, 1, b);
            dueBadAlike(b, b, b);
        }
        dueBadAlike(0, 1, 3);
        dueBadAlike(0, 0, 3);
        Check.due("13: without versions", Made.questions(3).alike(0, 0, 0), BAD);
        // seed 0 gives the order 1 2 0, seed 5 the order 0 2 1
        Twins.dueUnchanged("13: alike(0, 5, 0)", Made::sixVersions, 1, test -> test.alike(0, 5, 0));
        Twins.dueUnchanged("13: alike(5, 0, 1)", Made::sixVersions, 1, test -> test.alike(5, 0, 1));
        Twins.dueUnchanged("13: alike(0, 5, 2)", Made::sixVersions, 0, test -> test.alike(0, 5, 2));
    }

    private static void alikeOfNoAndOfOneQuestion() {
        TestVersions none = Made.empty();
        none.version(0);
        none.version(5);
        TestVersions one = Made.questions(1);
        one.version(0);
        one.version(5);
        for (int what = 0; what < 3; what++) {
            Check.due("13: no questions, what " + what, none.alike(0, 1, what), 0);
            Check.due("13: one question, what " + what, one.alike(0, 1, what), what < 2 ? 1 : 0);
        }
    }

    private static void alikeOfTwenty() {
        TestVersions test = Made.questions(20);
        test.version(0);
        test.version(0);
        for (int w = 0; w < 2; w++) {
            Check.due("13: 20 places", test.alike(0, w, 0), 20);
            Check.due("13: 20 keys", test.alike(0, w, 1), 20);
            Check.due("13: 19 neighbors", test.alike(0, w, 2), 19);
        }
        TestVersions less = Made.questions(4);
        less.version(10);
        // 37311 % 4 = 3, 28214 % 3 = 2, 44013 % 2 = 1: seed 10 leaves them in their order
        Check.due("13: four are in their order", less.at(0, 3, 0), 3);
        Check.due("13: three neighbors of four", less.alike(0, 0, 2), 3);
        less.remove(3);
        Check.due("13: two neighbors of three", less.alike(0, 0, 2), 2);
        Check.due("13: three places", less.alike(0, 0, 0), 3);
        Check.due("13: three keys", less.alike(0, 0, 1), 3);
        // a question directly before another one there is no neighbor here: 0 1 against 1 0
        TestVersions turned = Made.questions(2);
        turned.version(0);
        turned.version(5);
        dueOrder("13: seed 0", turned, 0, 1, 0);
        dueOrder("13: seed 5", turned, 1, 0, 1);
        Check.due("13: turned neighbors", turned.alike(0, 1, 2), 0);
        Check.due("13: turned places", turned.alike(0, 1, 0), 0);
        Check.due("13: the keys are the same", turned.alike(0, 1, 1), 2);
    }

    // ---- promise 14

    /** One question with two choices, of which 0 is right: its key is 1 if the first lot is even, otherwise 0. */
    private static TestVersions oneQuestion(int... seeds) {
        TestVersions test = new TestVersions();
        test.add(1, 2, 0, 0, 0);
        for (int seed : seeds) {
            test.version(seed);
        }
        return test;
    }

    /** Four such questions and a version with the key 0, 0, 0, 0. */
    private static TestVersions fourQuestions() {
        TestVersions test = new TestVersions();
        for (int i = 0; i < 4; i++) {
            test.add(1, 2, 0, 0, 0);
        }
        test.version(12);
        for (int place = 0; place < 4; place++) {
            Check.due("14: key of seed 12", test.at(0, place, 1), 0);
        }
        return test;
    }

    private static void unlikeManyIsOneToForty() {
        for (int many : new int[] {0, -1, 41, MIN, MAX}) {
            Twins.dueUnchanged("14: unlike(0, " + many + ")", Made::sixVersions, NO_SEED, test -> test.unlike(0, many));
            Check.due("14: unlike(0, " + many + ") on a new object", new TestVersions().unlike(0, many), NO_SEED);
        }
        Twins.dueUnchanged("14: unlike(7, 1)", Made::sixVersions, 7, test -> test.unlike(7, 1));
        // the keys are the orders: 1 2 0 for seed 0, then 1 0 2, and 2 0 1 for seed 8 as the first one without a like
        TestVersions test = Made.three();
        Check.due("14: 40 seeds", test.unlike(0, 40), 8);
        Check.due("14: two seeds", test.unlike(0, 2), 1);
        Check.due("14: one seed", test.unlike(0, 1), 0);
        Check.due("14: it adds no version", test.versions(), 1);
    }

    /**
     * From 81 on, places with the key of seed 12: 1 4 3 1 3 2 1 3 3 2 2 1 3 4 2 1 2 2 2 2 3 2 1 2 3 3 3 1 2 3
     * 1 2 4 1 1 2 2 4 1 0; seed 80 has 2. So only the 40th seed, 120, has none.
     */
    private static void unlikeLooksAtNoSeedMore() {
        Check.due("14: the 40th seed is looked at", fourQuestions().unlike(81, 40), 120);
        Check.due("14: only 39 are", fourQuestions().unlike(81, 39), 81);
        Check.due("14: a 41st is not", fourQuestions().unlike(80, 40), 81);
        Check.due("14: one is", fourQuestions().unlike(120, 1), 120);
        Check.due("14: the first one is looked at", fourQuestions().unlike(120, 40), 120);
    }

    /** First lots of the seeds 0 to 6: 0, 16838, 33676, 50515, 1817, 18655, 35494, so keys 1 1 1 0 0 0 1. */
    private static void unlikeTellsTheFirstOfSeveral() {
        Check.due("14: 3, 4 and 5 are unlike", oneQuestion(0).unlike(0, 40), 3);
        Check.due("14: of four seeds only 3 is", oneQuestion(0).unlike(0, 4), 3);
        Check.due("14: of three seeds none is", oneQuestion(0).unlike(0, 3), 0);
        Check.due("14: 6 is the next with key 1", oneQuestion(3).unlike(3, 40), 6);
        Check.due("14: already the first one is", oneQuestion(3).unlike(0, 40), 0);
    }

    /** The first lot of the greatest int is 15929, key 0; that of the smallest one is 32768, key 1. */
    private static void unlikeGoesOnWithOverflow() {
        Check.due("14: behind the greatest int comes the smallest", oneQuestion(3).unlike(MAX, 2), -2147483648L);
        Check.due("14: with 40 seeds, too", oneQuestion(3).unlike(MAX, 40), -2147483648L);
        Check.due("14: one seed goes over nothing", oneQuestion(3).unlike(MAX, 1), 2147483647L);
        Check.due("14: the greatest int itself", oneQuestion(0).unlike(MAX, 40), 2147483647L);
        Check.due("14: from the smallest int", oneQuestion(3).unlike(MIN, 40), -2147483648L);
        // first lot of -1: 48697, key 0, and of 0: 0, key 1
        Check.due("14: from -1 to 0", oneQuestion(3).unlike(-1, 2), 0);
        Check.due("14: a negative seed", oneQuestion(0).unlike(-1, 2), -1L);
    }

    private static void unlikeWithoutVersions() {
        for (int from : new int[] {0, -1, MIN, MAX, 77}) {
            Check.due("14: no versions, from " + from, Made.questions(20).unlike(from, 40), from);
            Check.due("14: no questions either, from " + from, Made.empty().unlike(from, 40), from);
        }
        TestVersions test = Made.empty();
        test.version(0);
        Check.due("14: a version without questions", test.unlike(-9, 40), -9);
    }

    /** With keys 1 and 0 there, each seed is like one of them. */
    private static void unlikeOfTheGreatestOverAllVersions() {
        Check.due("14: keys 1 and 0", oneQuestion(0, 3).unlike(3, 40), 3);
        Check.due("14: keys 0 and 1", oneQuestion(3, 0).unlike(0, 40), 0);
        Check.due("14: five times key 1, then key 0", oneQuestion(0, 1, 2, 0, 1, 3).unlike(4, 40), 4);
        Check.due("14: six times key 1", oneQuestion(0, 1, 2, 0, 1, 2).unlike(0, 40), 3);
    }

    /**
     * All choices but those of the last of 20 questions keep their places, so only the 20th lot tells
     * whether a key is 1: those of the seeds 0 to 4 are 17661, 58334, 33471, 8608, 49281.
     */
    private static void unlikeOfNineteenAndOfTwenty() {
        TestVersions test = Made.questions(20);
        test.change(19, 2, 0);
        test.version(0);
        Check.due("14: 20 alike, then 19", test.unlike(0, 40), 1);
        Check.due("14: 20 alike alone", test.unlike(0, 1), 0);
        Check.due("14: of 20 and 19 from 2 on", test.unlike(2, 40), 3);
        Check.due("14: 19 alike at once", test.unlike(3, 40), 3);
        // seed 1 has its 1 at place 2, seed 5 at place 10: seed 4 is alike in 20 and 19, seed 5 in 19 and 18
        test.version(1);
        Check.due("14: the greatest over two versions", test.unlike(4, 2), 5);
    }

    private static void unlikeWithSixVersionsAndSheets() {
        Twins.dueUnchanged("14: with six versions", Made::sixVersions, 2147483647L, test -> test.unlike(MAX, 1));
        // all keys are 0, so the first one is as good as any
        Twins.dueUnchanged("14: when all is full", Made::full, -1, test -> test.unlike(-1, 40));
        Check.due("14: when all is full, many 41", Made.full().unlike(0, 41), NO_SEED);
    }
}
