/** Objects in states that are known, for the tests of the edges. */
final class Made {
    /** As many characters as the buffer has room for, none of them an answer. */
    static final String TWENTY_SIGNS = "????????????????????";

    private Made() {
    }

    static TestVersions empty() {
        return new TestVersions();
    }

    /** Questions of one line with two choices that keep their places; the right choice is always 0. */
    static TestVersions questions(int many) {
        TestVersions test = new TestVersions();
        for (int i = 0; i < many; i++) {
            test.add(1, 2, 0, 3, 0);
        }
        return test;
    }

    /**
     * Three questions with 2, 3 and 4 choices that keep their places, and a version of the seed 0:
     * its order is 1, 2, 0, its key is "BCA". The history has 4 states.
     */
    static TestVersions three() {
        TestVersions test = new TestVersions();
        test.add(2, 2, 0, 3, 0);
        test.add(3, 3, 1, 7, 0);
        test.add(4, 4, 2, 15, 0);
        test.version(0);
        return test;
    }

    /** Two sheets, "BCA" that is all right and "AD-", and a character in the buffer. */
    static TestVersions threeWithSheets() {
        TestVersions test = three();
        hand(test, 0, "BCA");
        hand(test, 0, "AD-");
        test.type('B');
        return test;
    }

    /** There are 6 versions, and no sheets. */
    static TestVersions sixVersions() {
        TestVersions test = three();
        for (int seed = 1; seed <= 5; seed++) {
            test.version(seed);
        }
        return test;
    }

    /** There are 20 sheets, of one version. */
    static TestVersions twentySheets() {
        TestVersions test = three();
        for (int s = 0; s < 20; s++) {
            test.guess(0, s, s % 11);
        }
        return test;
    }

    /** There are 20 questions, 6 versions and no sheets; the history has 5 states. */
    static TestVersions twentyQuestions() {
        TestVersions test = questions(20);
        for (int seed = 0; seed <= 5; seed++) {
            test.version(seed);
        }
        return test;
    }

    /** All is full: 20 questions, 6 versions, 20 sheets, 20 characters in the buffer, 5 states. */
    static TestVersions full() {
        TestVersions test = twentyQuestions();
        for (int s = 0; s < 20; s++) {
            test.guess(s % 6, s, s % 11);
        }
        type(test, TWENTY_SIGNS);
        return test;
    }

    static TestVersions fullBuffer() {
        TestVersions test = three();
        type(test, TWENTY_SIGNS);
        return test;
    }

    static void type(TestVersions test, String text) {
        for (int i = 0; i < text.length(); i++) {
            test.type(text.charAt(i));
        }
    }

    static int hand(TestVersions test, int version, String answers) {
        type(test, answers);
        return test.sheet(version);
    }
}
