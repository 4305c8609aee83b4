/** Long runs of calls by fixed seeds, each answer compared with the model's. */
public final class ModelTest {
    private static final int RUNS = 1500;
    /** No step of a run makes more than 26 calls, and an object is used for at most 512. */
    private static final int LAST_STEP = 480;
    private static final int[] EXTREMES = {
        Integer.MIN_VALUE, Integer.MIN_VALUE + 1, -65536, -7, -2, -1, 6, 9, 20, 21, 31, 61, 127, 65536,
        1 << 30, Integer.MAX_VALUE - 1, Integer.MAX_VALUE};

    private final Pair pair;
    private long state;

    private ModelTest(int run) {
        pair = new Pair("run " + run);
        state = run * 7919L + 17;
    }

    public static void main(String[] args) {
        for (int run = 0; run < RUNS && Check.wrongSoFar() == 0; run++) {
            new ModelTest(run).play(run);
        }
        for (int run = 0; run < 6 && Check.wrongSoFar() == 0; run++) {
            for (int extreme : EXTREMES) {
                new ModelTest(run).tryExtreme(run, extreme);
            }
        }
        Check.end("ModelTest");
    }

    private int below(int bound) {
        state = state * 6364136223846793005L + 1442695040888963407L;
        return (int) ((state >>> 33) % bound);
    }

    private int between(int least, int greatest) {
        return least + below(greatest - least + 1);
    }

    /** Mostly a number from 0 up to the bound, the bound itself and -1 too, seldom an extreme one. */
    private int near(int bound) {
        int kind = below(40);
        if (kind == 0) {
            return EXTREMES[below(EXTREMES.length)];
        }
        return kind == 1 ? -1 : kind == 2 ? bound : below(Math.max(1, bound));
    }

    private int seed() {
        return below(8) == 0 ? EXTREMES[below(EXTREMES.length)] : (int) (state >>> 20) ^ below(1 << 30);
    }

    private void play(int run) {
        int sized = between(0, 20);
        int mostVersions = between(1, 6);
        for (int i = 0; i < sized; i++) {
            addOne(run % 3);
        }
        for (int i = 0; i < mostVersions; i++) {
            pair.version(run % 4 == 0 ? i : seed());
        }
        while (pair.calls() < LAST_STEP) {
            int kind = below(100);
            if (run % 2 == 0 ? kind < 30 : kind < 12) {
                changeSomething(run);
            } else if (kind < 36) {
                doSheets(run);
            } else if (kind < 68) {
                askVersions();
            } else {
                askSheets();
            }
        }
        pair.fingerprint();
    }

    private void addOne(int groups) {
        int choices = between(2, 5);
        int group = groups == 0 ? 0 : groups == 1 ? below(6) : below(2) * between(1, 2);
        pair.add(between(1, 9), choices, below(choices), below(3) == 0 ? below(1 << choices) : 0, group);
    }

    private void changeSomething(int run) {
        switch (below(12)) {
            case 0: case 1: addOne(run % 3); break;
            case 2: pair.add(near(10), near(6), near(5), near(32), near(6)); break;
            case 3: pair.remove(near(pair.model.questions())); break;
            case 4: case 5: pair.change(near(pair.model.questions()), near(4), near(9)); break;
            case 6: pair.change(near(pair.model.questions()), 2, near(32)); break;
            case 7: pair.version(seed()); break;
            case 8: pair.drop(); break;
            case 9: pair.setLines(near(62)); break;
            case 10: pair.forget(); break;
            default: pair.undo();
        }
    }

    private void doSheets(int run) {
        int versions = pair.model.versions();
        switch (below(run % 5 == 0 ? 9 : 7)) {
            case 0: case 1: case 2: case 3: pair.guess(near(versions), seed(), near(11)); break;
            case 4: typeSheet(); pair.sheet(near(versions)); break;
            case 5: pair.sheet(near(versions)); pair.clear(); break;
            case 6: pair.type(near(127)); break;
            case 7: pair.undo(); break;
            default: pair.guess(near(versions), below(3), 0);
        }
    }

    /** Few letters, so that most sheets fit and sheets often have the same wrong answers. */
    private void typeSheet() {
        pair.clear();
        int many = Math.min(20, Math.max(0, pair.model.questions() + (below(5) == 0 ? below(3) - 1 : 0)));
        String letters = below(4) == 0 ? "ABCDE-" : below(4) == 0 ? "AB-@Fa" : "AABB-";
        for (int i = 0; i < many; i++) {
            pair.type(letters.charAt(below(letters.length())));
        }
    }

    private void askVersions() {
        int questions = pair.model.questions();
        int versions = pair.model.versions();
        switch (below(12)) {
            case 0: pair.question(near(questions), near(5)); break;
            case 1: pair.questions(); pair.versions(); break;
            case 2: case 3: case 4: pair.at(near(versions), near(questions), near(4)); break;
            case 5: pair.where(near(versions), near(questions)); break;
            case 6: case 7: pair.choice(near(versions), near(questions), near(5)); break;
            case 8: pair.alike(near(versions), near(versions), near(3)); break;
            case 9: pair.unlike(seed(), near(41)); break;
            case 10: pair.pages(near(versions)); break;
            default: pair.page(near(versions), near(5), near(2));
        }
    }

    private void askSheets() {
        int questions = pair.model.questions();
        int versions = pair.model.versions();
        switch (below(10)) {
            case 0: case 1: pair.result(near(20), near(5)); break;
            case 2: pair.answer(near(8), near(questions)); break;
            case 3: case 4: pair.about(near(questions), near(4)); break;
            case 5: pair.parting(near(questions)); break;
            case 6: pair.mean(); pair.sameWrong(near(5), near(5)); break;
            case 7: pair.suspects(); break;
            case 8: pair.mistaken(near(8), near(versions)); break;
            default: pair.fingerprint();
        }
    }

    /** Every argument of every call takes the value e, the others being plain. */
    private void tryExtreme(int run, int e) {
        for (int i = 0; i < 4 * run; i++) {
            addOne(run % 3);
        }
        for (int i = 0; i < run; i++) {
            pair.version(i * 77);
        }
        for (int i = 0; i < 4 * run && run % 2 == 1; i++) {
            pair.guess(0, i, 5);
        }
        pair.add(e, 4, 1, 0, 0);
        pair.add(1, e, 1, 0, 0);
        pair.add(1, 4, e, 0, 0);
        pair.add(1, 4, 1, e, 0);
        pair.add(1, 4, 1, 0, e);
        pair.remove(e);
        pair.change(e, 0, 1);
        pair.change(0, e, 1);
        for (int what = 0; what < 4; what++) {
            pair.change(0, what, e);
        }
        pair.question(e, 0);
        pair.question(0, e);
        pair.unlike(e, 40);
        pair.unlike(0, e);
        pair.setLines(e);
        pair.type(e);
        pair.sheet(e);
        tryExtremeReads(e);
        pair.fingerprint();
    }

    private void tryExtremeReads(int e) {
        pair.at(e, 0, 0);
        pair.at(0, e, 0);
        pair.at(0, 0, e);
        pair.where(e, 0);
        pair.where(0, e);
        pair.choice(e, 0, 0);
        pair.choice(0, e, 0);
        pair.choice(0, 0, e);
        pair.alike(e, 0, 0);
        pair.alike(0, e, 0);
        pair.alike(0, 0, e);
        pair.pages(e);
        pair.page(e, 0, 0);
        pair.page(0, e, 0);
        pair.page(0, 0, e);
        pair.guess(e, 0, 5);
        pair.guess(0, 0, e);
        pair.result(e, 0);
        pair.result(0, e);
        pair.answer(e, 0);
        pair.answer(0, e);
        pair.about(e, 0);
        pair.about(0, e);
        pair.parting(e);
        pair.sameWrong(e, 0);
        pair.sameWrong(0, e);
        pair.mistaken(e, 0);
        pair.mistaken(0, e);
    }
}
