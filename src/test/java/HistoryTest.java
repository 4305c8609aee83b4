/** Promises 31 and 32: the history and the fingerprint. */
public final class HistoryTest {
    private static final int NONE = TestVersions.NONE;

    private HistoryTest() {
    }

    public static void main(String[] args) {
        undoCountsDown();
        theOldestIsDropped();
        everyActIsUndone();
        nothingElseIsAnAct();
        undoWorksThroughTheRing();
        fingerprintOfLittle();
        fingerprintOfTheFace();
        Check.end("HistoryTest");
    }

    private static TestVersions filled() {
        TestVersions test = new TestVersions();
        for (int i = 0; i < 12; i++) {
            test.add(1 + i * 5 % 9, 2 + i % 4, i % 2, i % 4, i % 3);
        }
        for (int v = 0; v < 4; v++) {
            test.version(1000 * v - 7);
        }
        test.setLines(17);
        return test;
    }

    private static void undoCountsDown() {
        TestVersions test = new TestVersions();
        Check.due("31: without acts", test.undo(), NONE);
        test.add(1, 2, 0, 0, 0);
        test.add(2, 2, 0, 0, 0);
        test.add(3, 2, 0, 0, 0);
        Check.due("31: the third", test.undo(), 2);
        Check.due("31: two are left", test.questions(), 2);
        Check.due("31: the second", test.undo(), 1);
        Check.due("31: the first", test.undo(), 0);
        Check.due("31: none are left", test.questions(), 0);
        Check.due("31: none more", test.undo(), NONE);
        Check.due("31: none more", test.undo(), NONE);
    }

    private static void theOldestIsDropped() {
        TestVersions test = new TestVersions();
        for (int i = 0; i < 8; i++) {
            test.add(1 + i, 2, 0, 0, 0);
        }
        for (int left = 4; left >= 0; left--) {
            Check.due("31: undo", test.undo(), left);
            Check.due("31: questions then", test.questions(), 3 + left);
        }
        Check.due("31: the first three stay", test.undo(), NONE);
        Check.due("31: with their numbers", test.question(2, 0), 3);
        test.add(9, 2, 0, 0, 0);
        Check.due("31: it goes on", test.undo(), 0);
        Check.due("31: the first three again", test.questions(), 3);
    }

    private static void act(TestVersions test, int kind) {
        switch (kind) {
            case 0: test.add(9, 3, 2, 1, 0); break;
            case 1: test.remove(4); break;
            case 2: test.change(3, 0, 4); break;
            case 3: test.change(2, 3, 5); break;
            case 4: test.version(5); break;
            case 5: test.drop(); break;
            case 6: test.setLines(23); break;
            case 7: test.guess(1, 8, 5); break;
            default: test.forget();
        }
    }

    private static void everyActIsUndone() {
        for (int first = 0; first < 9; first++) {
            for (int second = 0; second < 9; second++) {
                TestVersions test = filled();
                long before = test.fingerprint();
                act(test, first);
                long between = test.fingerprint();
                act(test, second);
                boolean refused = first == 7 && second < 6;
                Check.due("31: undo of " + second + " after " + first, test.undo(), 4);
                Check.due("31: undone " + second + " after " + first, test.fingerprint(), refused ? before : between);
                if (!refused) {
                    Check.due("31: undo of " + first, test.undo(), 3);
                    Check.due("31: undone " + first, test.fingerprint(), before);
                }
            }
        }
        TestVersions test = filled();
        for (int i = 0; i < 12; i++) {
            test.type('-');
        }
        long before = test.fingerprint();
        test.sheet(2);
        Check.due("31: undo of sheet", test.undo(), 4);
        Check.due("31: undone sheet", test.fingerprint(), before);
        Check.due("31: the buffer stays empty", test.clear(), 0);
        Check.due("31: P is restored, too", test.setLines(9), 17);
    }

    private static void nothingElseIsAnAct() {
        TestVersions test = filled();
        test.question(0, 0);
        test.unlike(0, 40);
        test.at(0, 0, 0);
        test.pages(0);
        test.type('A');
        test.clear();
        test.fingerprint();
        test.sheet(0);
        test.add(0, 0, 0, 0, 0);
        test.guess(9, 9, 9);
        Check.due("31: the latest act is still setLines", test.undo(), 4);
        Check.due("31: it is undone", test.setLines(9), 30);
    }

    private static void undoWorksThroughTheRing() {
        TestVersions test = filled();
        long[] prints = new long[40];
        for (int i = 0; i < 40; i++) {
            prints[i] = test.fingerprint();
            act(test, i % 7);
            if (i % 3 == 2) {
                test.undo();
                Check.due("31: undone act " + i, test.fingerprint(), prints[i]);
            }
        }
        TestVersions sheets = filled();
        for (int i = 0; i < 20; i++) {
            prints[i] = sheets.fingerprint();
            sheets.guess(i % 4, i, i % 11);
        }
        for (int i = 19; i >= 15; i--) {
            Check.due("31: undo of sheet " + i, sheets.undo(), i - 15);
            Check.due("31: undone sheet " + i, sheets.fingerprint(), prints[i]);
        }
        Check.due("31: 15 sheets stay", sheets.forget(), 15);
    }

    private static void fingerprintOfLittle() {
        TestVersions test = new TestVersions();
        Check.due("32: of nothing", test.fingerprint(), 5392171L);
        test.version(0);
        // 181; 0 questions; 1 version with 0 pages; 0 sheets
        Check.due("32: of a version", test.fingerprint(), (((181L * 31) * 31 + 1) * 31) * 31);
        test.undo();
        test.add(7, 2, 1, 3, 4);
        long print = 181L * 31 + 1;
        for (int number : new int[] {7, 1, 3, 4, 2, 0, 0}) {
            print = 31 * print + number;
        }
        Check.due("32: of a question", test.fingerprint(), print);
        test.version(0);
        test.type('-');
        test.sheet(0);
        print = 181L * 31 + 1;
        for (int number : new int[] {7, 1, 3, 4, 2, 1, 0, 1, 0, 0, 1, 1, 0, 0, 0, 0, 1, NONE}) {
            print = 31 * print + number;
        }
        Check.due("32: of a sheet without an answer", test.fingerprint(), print);
        test.setLines(9);
        Check.due("32: P by itself is not in it", test.fingerprint(), print);
    }

    private static long printOfTheFace(TestVersions test, int sheets) {
        long print = 31 * 181L + test.questions();
        for (int q = 0; q < test.questions(); q++) {
            for (int what = 0; what <= 4; what++) {
                print = 31 * print + test.question(q, what);
            }
        }
        print = 31 * print + test.versions();
        for (int v = 0; v < test.versions(); v++) {
            for (int p = 0; p < test.questions(); p++) {
                for (int what = 0; what <= 3; what++) {
                    print = 31 * print + test.at(v, p, what);
                }
            }
            print = 31 * print + test.pages(v);
        }
        print = 31 * print + sheets;
        for (int s = 0; s < sheets; s++) {
            for (int what = 0; what <= 4; what++) {
                print = 31 * print + test.result(s, what);
            }
            for (int q = 0; q < test.questions(); q++) {
                print = 31 * print + test.answer(s, q);
            }
        }
        return print;
    }

    private static void fingerprintOfTheFace() {
        TestVersions test = filled();
        Check.due("32: without sheets", test.fingerprint(), printOfTheFace(test, 0));
        test.guess(3, 1, 2);
        test.guess(0, 2, 3);
        Check.due("32: with two sheets", test.fingerprint(), printOfTheFace(test, 2));
        Check.due("32: it is no act", test.undo(), 4);
        Check.due("32: with one sheet", test.fingerprint(), printOfTheFace(test, 1));
    }
}
