/**
 * Promises 7 to 14. The lots of some seeds before "modulo", worked out by hand:
 * seed 0: 0, 54236, 42756, 54885; seed 5: 18655, 41225, 10616, 31877; seed -1: 48697, 4409, 9862, 59486.
 */
public final class VersionsTest {
    private static final int BAD = TestVersions.BAD;
    private static final int STATE = TestVersions.STATE;
    private static final int FULL = TestVersions.FULL;

    private VersionsTest() {
    }

    public static void main(String[] args) {
        versionAndDrop();
        versionAndDropRefuse();
        unitsAreMixed();
        groupsStayTogether();
        groupStandsAtItsFirstQuestion();
        choicesAreMixed();
        choicesKeepTheirPlaces();
        lotsGoOnFromUnitsToChoices();
        versionsFitTheQuestions();
        placesRefuse();
        alikeCounts();
        neighborsAreNotSamePlaces();
        unlikeIsTheBestOfAll();
        unlikeOfNearlyTheSame();
        unlikeRefuses();
        Check.end("VersionsTest");
    }

    /** Questions whose choices all keep their places, with right choices 0, 1 and 2. */
    private static TestVersions three() {
        TestVersions test = new TestVersions();
        test.add(3, 2, 0, 3, 0);
        test.add(3, 3, 1, 7, 0);
        test.add(4, 4, 2, 15, 0);
        return test;
    }

    private static void dueOrder(String name, TestVersions test, int version, int... questions) {
        for (int place = 0; place < questions.length; place++) {
            Check.due(name + ": at(" + version + ", " + place + ", 0)", test.at(version, place, 0), questions[place]);
            Check.due(name + ": where(" + version + ", " + questions[place] + ")",
                    test.where(version, questions[place]), place);
        }
        Check.due(name + ": no place more", test.at(version, questions.length, 0), BAD);
    }

    private static void dueChoices(String name, TestVersions test, int version, int place, int... choices) {
        for (int k = 0; k < choices.length; k++) {
            Check.due(name + ": choice(" + version + ", " + place + ", " + k + ")",
                    test.choice(version, place, k), choices[k]);
        }
        Check.due(name + ": no choice more", test.choice(version, place, choices.length), BAD);
        Check.due(name + ": no choice before", test.choice(version, place, -1), BAD);
    }

    private static void versionAndDrop() {
        TestVersions test = three();
        int[] seeds = {7, Integer.MAX_VALUE, Integer.MIN_VALUE, -1002, 0, -1};
        for (int i = 0; i < seeds.length; i++) {
            Check.due("7: version(" + seeds[i] + ")", test.version(seeds[i]), i);
            Check.due("9: versions() then", test.versions(), i + 1);
        }
        Check.due("7: a seventh", test.version(8), FULL);
        Check.due("9: versions() when full", test.versions(), 6);
        for (int i = seeds.length - 1; i >= 0; i--) {
            Check.due("8: drop() of the seed " + seeds[i], test.drop(), seeds[i]);
            Check.due("9: versions() after drop", test.versions(), i);
        }
        Check.due("8: drop() without versions", test.drop(), STATE);
        Check.due("8: drop() is an act, a refused one is none", test.undo(), 4);
        Check.due("8: it is undone", test.versions(), 1);
        Check.due("8: with its seed", test.drop(), 7);
    }

    private static void versionAndDropRefuse() {
        TestVersions test = new TestVersions();
        Check.due("7: version without questions", test.version(3), 0);
        test.guess(0, 0, 0);
        Check.due("7: STATE with sheets", test.version(3), STATE);
        Check.due("8: STATE with sheets", test.drop(), STATE);
        test.forget();
        for (int i = 1; i < 6; i++) {
            test.version(i);
        }
        test.guess(5, 0, 0);
        Check.due("7: STATE before FULL", test.version(3), STATE);
        test.undo();
        Check.due("7: FULL", test.version(3), FULL);
        Check.due("7: FULL is no act", test.undo(), 3);
        Check.due("7: version() is an act", test.versions(), 5);
    }

    private static void unitsAreMixed() {
        TestVersions test = three();
        test.version(0);
        test.version(5);
        dueOrder("10 and 11, seed 0", test, 0, 1, 2, 0);
        dueOrder("10 and 11, seed 5", test, 1, 0, 2, 1);
        Check.due("10: key", test.at(0, 0, 1), 1);
        Check.due("10: key", test.at(0, 1, 1), 2);
        Check.due("10: key", test.at(0, 2, 1), 0);
        Check.due("10: page", test.at(0, 2, 2), 0);
        Check.due("10: line", test.at(0, 0, 3), 0);
        Check.due("10: line", test.at(0, 1, 3), 3);
        Check.due("10: line", test.at(0, 2, 3), 7);
        dueChoices("12: kept choices", test, 0, 1, 0, 1, 2, 3);
        dueChoices("12: kept choices", test, 0, 2, 0, 1);
        test.setLines(9);
        Check.due("10: page 0 of two", test.at(0, 0, 2), 0);
        Check.due("10: page 1 of two", test.at(0, 1, 2), 1);
        Check.due("10: page 1 of two", test.at(0, 2, 2), 1);
        Check.due("10: line on page 1", test.at(0, 1, 3), 0);
        Check.due("10: line on page 1", test.at(0, 2, 3), 4);
    }

    private static void groupsStayTogether() {
        TestVersions test = new TestVersions();
        test.add(1, 2, 0, 3, 1);
        test.add(1, 2, 0, 3, 0);
        test.add(1, 2, 0, 3, 1);
        test.version(0);
        test.version(5);
        dueOrder("10: both rows turned", test, 0, 1, 2, 0);
        dueOrder("10: both rows left", test, 1, 0, 2, 1);
    }

    private static void groupStandsAtItsFirstQuestion() {
        TestVersions test = new TestVersions();
        int[] groups = {0, 2, 0, 2};
        for (int group : groups) {
            test.add(1, 2, 0, 3, group);
        }
        test.version(5);
        dueOrder("10: units 0, 1 with 3, 2", test, 0, 0, 2, 3, 1);
    }

    private static void choicesAreMixed() {
        TestVersions test = new TestVersions();
        test.add(1, 3, 0, 0, 0);
        test.version(0);
        dueChoices("12: three choices", test, 0, 0, 1, 2, 0);
        Check.due("10: key of right 0", test.at(0, 0, 1), 2);
        test.change(0, 1, 1);
        Check.due("10: key of right 1", test.at(0, 0, 1), 0);
        test.change(0, 1, 2);
        Check.due("10: key of right 2", test.at(0, 0, 1), 1);
    }

    private static void choicesKeepTheirPlaces() {
        TestVersions test = new TestVersions();
        test.add(1, 5, 4, 10, 0);
        test.version(0);
        dueChoices("12: 1 and 3 keep their places", test, 0, 0, 2, 1, 4, 3, 0);
        Check.due("10: key of right 4", test.at(0, 0, 1), 2);
        test.change(0, 1, 3);
        Check.due("10: key of a kept choice", test.at(0, 0, 1), 3);
        test.change(0, 2, 30);
        dueChoices("12: one choice is left to mix", test, 0, 0, 0, 1, 2, 3, 4);
    }

    private static void lotsGoOnFromUnitsToChoices() {
        TestVersions test = new TestVersions();
        test.add(1, 2, 0, 0, 1);
        test.add(1, 2, 1, 3, 0);
        test.add(1, 2, 0, 0, 1);
        test.version(5);
        test.version(-1);
        dueOrder("10: seed 5", test, 0, 0, 2, 1);
        dueChoices("12: third lot of seed 5", test, 0, 0, 1, 0);
        dueChoices("12: fourth lot of seed 5", test, 0, 1, 0, 1);
        dueChoices("12: all kept", test, 0, 2, 0, 1);
        dueOrder("10: seed -1", test, 1, 0, 2, 1);
        dueChoices("12: third lot of seed -1", test, 1, 0, 1, 0);
        dueChoices("12: fourth lot of seed -1", test, 1, 1, 1, 0);
    }

    private static void versionsFitTheQuestions() {
        TestVersions test = three();
        test.version(0);
        dueOrder("10: three questions", test, 0, 1, 2, 0);
        test.remove(2);
        dueOrder("10: two questions, seed 0", test, 0, 1, 0);
        test.undo();
        dueOrder("10: undone", test, 0, 1, 2, 0);
        test.change(2, 3, 1);
        test.change(0, 3, 1);
        dueOrder("10: a group since", test, 0, 1, 2, 0);
        test.change(1, 0, 9);
        Check.due("10: the line fits the new height", test.at(0, 1, 3), 9);
        test.drop();
        Check.due("10: dropped", test.at(0, 0, 0), BAD);
        test.version(5);
        test.change(0, 3, 0);
        dueOrder("10: another seed at the same number", test, 0, 0, 2, 1);
        test.add(1, 2, 1, 0, 0);
        dueOrder("10: four questions, seed 5", test, 0, 1, 0, 2, 3);
        Check.due("10: the line of the fourth place", test.at(0, 3, 3), 16);
    }

    private static void placesRefuse() {
        TestVersions test = three();
        test.version(0);
        int[] beyond = {-1, 3, 20, Integer.MAX_VALUE, Integer.MIN_VALUE};
        for (int b : beyond) {
            Check.due("10: at(" + b + ", 0, 0)", test.at(b, 0, 0), BAD);
            Check.due("10: at(0, " + b + ", 0)", test.at(0, b, 0), BAD);
            Check.due("11: where(" + b + ", 0)", test.where(b, 0), BAD);
            Check.due("11: where(0, " + b + ")", test.where(0, b), BAD);
            Check.due("12: choice(" + b + ", 0, 0)", test.choice(b, 0, 0), BAD);
            Check.due("12: choice(0, " + b + ", 0)", test.choice(0, b, 0), BAD);
            Check.due("12: choice(0, 0, " + b + ")", test.choice(0, 0, b), BAD);
        }
        Check.due("10: at(1, 0, 0)", test.at(1, 0, 0), BAD);
        Check.due("11: where(1, 0)", test.where(1, 0), BAD);
        Check.due("12: choice(1, 0, 0)", test.choice(1, 0, 0), BAD);
        Check.due("10: at(0, 0, 4)", test.at(0, 0, 4), BAD);
        Check.due("10: at(0, 0, -1)", test.at(0, 0, -1), BAD);
        Check.due("10, 11, 12: no acts", test.undo(), 3);
    }

    private static void alikeCounts() {
        TestVersions test = three();
        test.version(0);
        test.version(5);
        test.version(7);
        Check.due("13: 1 2 0 and 0 2 1: places", test.alike(0, 1, 0), 1);
        Check.due("13: keys", test.alike(0, 1, 1), 1);
        Check.due("13: neighbors", test.alike(0, 1, 2), 0);
        Check.due("13: 1 2 0 twice: places", test.alike(0, 2, 0), 3);
        Check.due("13: keys", test.alike(2, 0, 1), 3);
        Check.due("13: neighbors", test.alike(0, 2, 2), 2);
        Check.due("13: with itself", test.alike(1, 1, 2), 2);
        test.change(0, 1, 1);
        Check.due("13: keys 1 2 1 twice turned", test.alike(0, 1, 1), 3);
        Check.due("13: what 3", test.alike(0, 1, 3), BAD);
        Check.due("13: what -1", test.alike(0, 1, -1), BAD);
        Check.due("13: no version 3", test.alike(3, 0, 0), BAD);
        Check.due("13: no version 3", test.alike(0, 3, 0), BAD);
        Check.due("13: no version -1", test.alike(-1, 0, 2), BAD);
        Check.due("13: no version -1", test.alike(0, -1, 1), BAD);
    }

    private static void neighborsAreNotSamePlaces() {
        TestVersions test = new TestVersions();
        test.version(0);
        Check.due("13: no questions, no neighbors", test.alike(0, 0, 2), 0);
        test.add(1, 2, 0, 0, 0);
        Check.due("13: one question, no neighbors", test.alike(0, 0, 2), 0);
        test.remove(0);
        for (int group : new int[] {0, 2, 0, 2}) {
            test.add(1, 2, 0, 3, group);
        }
        test.version(5);
        // of the units {0} {1 3} {2}, seed 0 makes the row {1 3} {2} {0}, and its third lot turns 1 3
        dueOrder("13: seed 5", test, 1, 0, 2, 3, 1);
        dueOrder("13: seed 0", test, 0, 3, 1, 2, 0);
        Check.due("13: only 3 with 1 are neighbors in both", test.alike(0, 1, 2), 1);
        Check.due("13: and so from the other side", test.alike(1, 0, 2), 1);
        Check.due("13: no place has the same question", test.alike(0, 1, 0), 0);
        Check.due("13: all keys are 0", test.alike(0, 1, 1), 4);
    }

    private static TestVersions tenWith(int versions) {
        TestVersions test = new TestVersions();
        for (int i = 0; i < 10; i++) {
            test.add(1 + i % 9, 2 + i % 4, i % 2, i % 4, i % 3);
        }
        for (int v = 0; v < versions; v++) {
            test.version(100 + v);
        }
        return test;
    }

    private static int worstAlike(int versions, int seed) {
        TestVersions test = tenWith(versions);
        int last = test.version(seed);
        int worst = 0;
        for (int v = 0; v < last; v++) {
            worst = Math.max(worst, test.alike(v, last, 1));
        }
        return worst;
    }

    private static void unlikeIsTheBestOfAll() {
        int[] froms = {0, 99, -20, Integer.MAX_VALUE - 5, Integer.MIN_VALUE};
        for (int versions = 1; versions < 6; versions++) {
            for (int from : froms) {
                int best = from;
                for (int i = 1; i < 40; i++) {
                    best = worstAlike(versions, from + i) < worstAlike(versions, best) ? from + i : best;
                }
                Check.due("14: unlike(" + from + ", 40) of " + versions, tenWith(versions).unlike(from, 40), best);
            }
        }
        TestVersions none = tenWith(0);
        Check.due("14: without versions", none.unlike(-3, 40), -3);
        Check.due("14: it is no act", none.undo(), 4);
        TestVersions test = tenWith(6);
        Check.due("14: one seed", test.unlike(100, 1), 100);
        long before = test.unlike(-100, 40);
        test.guess(0, 0, 5);
        Check.due("14: with sheets and six versions, too", test.unlike(-100, 40), before);
    }

    /** All keys are 0 but that of the last question, which only some seeds move to another place. */
    private static TestVersions nearlyAllKept(int... seeds) {
        TestVersions test = new TestVersions();
        for (int i = 0; i < 20; i++) {
            test.add(1, 2, 0, i < 19 ? 3 : 0, 0);
        }
        for (int seed : seeds) {
            test.version(seed);
        }
        return test;
    }

    private static boolean movesTheLast(int seed) {
        TestVersions test = nearlyAllKept(seed);
        return test.at(0, test.where(0, 19), 1) == 1;
    }

    private static void unlikeOfNearlyTheSame() {
        int plain = 0;
        while (plain < 1000 && movesTheLast(plain)) {
            plain++;
        }
        int from = plain;
        int moved = from;
        while (moved < from + 39 && !movesTheLast(moved)) {
            moved++;
        }
        Check.holds("14: a seed that moves the last question was found", movesTheLast(moved));
        Check.due("14: 19 of 20 keys alike", nearlyAllKept(plain).unlike(from, 40), moved);
        Check.due("14: 20 of 20 keys alike", nearlyAllKept(plain).unlike(from, moved - from), from);
    }

    private static void unlikeRefuses() {
        TestVersions test = tenWith(2);
        for (int many : new int[] {0, -1, 41, Integer.MAX_VALUE, Integer.MIN_VALUE}) {
            Check.due("14: unlike(0, " + many + ")", test.unlike(0, many), -4611686018427387905L);
        }
        Check.due("14: it adds no version", test.versions(), 2);
        Check.due("14: no error is an act either", test.undo(), 4);
    }
}
