/**
 * The edges of promises 15 to 17 and of the description's PAGES: a test for each sentence that names one.
 * The seed 10 leaves four units in their order (37311 % 4 = 3, 28214 % 3 = 2, 44013 % 2 = 1), the seed 29
 * five (29559 % 5 = 4, 57415 % 4 = 3, 13634 % 3 = 2, 52513 % 2 = 1).
 */
public final class EdgesOfPagesTest {
    private static final int BAD = TestVersions.BAD;
    private static final int NONE = TestVersions.NONE;
    private static final int MIN = Integer.MIN_VALUE;
    private static final int MAX = Integer.MAX_VALUE;

    private EdgesOfPagesTest() {
    }

    public static void main(String[] args) {
        linesAreNineToSixty();
        linesAreThirtyAtFirst();
        linesWithSheets();
        linesAsTheyAre();
        noQuestionsNoPages();
        aPageIsFullAndOneLineMore();
        noneIsCut();
        pagesAreAsFewAsCanBe();
        greatestHeightIsAsSmallAsCanBe();
        oneHighQuestionLetsTheOthersBeHigh();
        firstPageHasAsFewAsCanBe();
        secondPageHasAsFewAsCanBe();
        twentyPagesAndOnePage();
        pagesBesideTheRange();
        pageBesideTheRange();
        pagesFollowTheQuestions();
        Check.end("EdgesOfPagesTest");
    }

    /** Questions of these heights in this order. */
    private static TestVersions inOrder(int lines, int... heights) {
        TestVersions test = new TestVersions();
        for (int height : heights) {
            test.add(height, 2, 0, 3, 0);
        }
        test.version(heights.length == 4 ? 10 : 29);
        for (int place = 0; place < heights.length; place++) {
            Check.due("10: the order is kept", test.at(0, place, 0), place);
        }
        test.setLines(lines);
        return test;
    }

    private static TestVersions same(int many, int height, int lines) {
        TestVersions test = new TestVersions();
        for (int i = 0; i < many; i++) {
            test.add(height, 2, 0, 3, 0);
        }
        test.version(0);
        test.setLines(lines);
        return test;
    }

    private static void duePages(String name, TestVersions test, int... counts) {
        Check.due(name + ": pages(0)", test.pages(0), counts.length);
        int place = 0;
        for (int page = 0; page < counts.length; page++) {
            Check.due(name + ": page(0, " + page + ", 0)", test.page(0, page, 0), counts[page]);
            int line = 0;
            for (int i = 0; i < counts[page]; i++) {
                Check.due(name + ": at(0, " + place + ", 2)", test.at(0, place, 2), page);
                Check.due(name + ": at(0, " + place + ", 3)", test.at(0, place, 3), line);
                line += test.question(test.at(0, place, 0), 0);
                place++;
            }
            Check.due(name + ": page(0, " + page + ", 1)", test.page(0, page, 1), line);
        }
        Check.due(name + ": no page more", test.page(0, counts.length, 0), BAD);
        Check.due(name + ": no height more", test.page(0, counts.length, 1), BAD);
    }

    private static void dueHeights(String name, TestVersions test, int... heights) {
        for (int page = 0; page < heights.length; page++) {
            Check.due(name + ": page(0, " + page + ", 1)", test.page(0, page, 1), heights[page]);
        }
    }

    // ---- promise 15

    private static void linesAreNineToSixty() {
        for (int lines : new int[] {8, 61, 0, -1, -9, MIN, MAX}) {
            Twins.dueUnchanged("15: setLines(" + lines + ")", Made::empty, BAD, test -> test.setLines(lines));
            Twins.dueUnchanged("15: setLines(" + lines + ")", Made::full, BAD, test -> test.setLines(lines));
        }
        TestVersions test = new TestVersions();
        Check.due("15: setLines(9)", test.setLines(9), 30);
        Check.due("15: setLines(60)", test.setLines(60), 9);
        Check.due("15: setLines(8)", test.setLines(8), BAD);
        Check.due("15: setLines(61)", test.setLines(61), BAD);
        Check.due("15: still 60", test.setLines(30), 60);
    }

    /** 10 questions of 3 lines stand on one page of 30 lines, 11 do not. */
    private static void linesAreThirtyAtFirst() {
        Check.due("15: P at first", new TestVersions().setLines(9), 30);
        TestVersions test = new TestVersions();
        test.version(0);
        for (int i = 0; i < 10; i++) {
            test.add(3, 2, 0, 3, 0);
        }
        duePages("15: 30 lines at first", test, 10);
        test.add(1, 2, 0, 3, 0);
        Check.due("15: 31 lines at first", test.pages(0), 2);
    }

    private static void linesWithSheets() {
        TestVersions test = Made.threeWithSheets();
        Check.due("15: setLines(9) with sheets", test.setLines(9), 30);
        Check.due("15: 9 lines on 9", test.pages(0), 1);
        Check.due("15: the sheets stay", test.result(0, 1), 12);
        Check.due("15: it is an act", test.undo(), 4);
        Check.due("15: undone", test.setLines(60), 30);
    }

    private static void linesAsTheyAre() {
        TestVersions test = new TestVersions();
        Check.due("15: setLines(30)", test.setLines(30), 30);
        Check.due("15: that is an act, too", test.undo(), 0);
        Check.due("15: the only one", test.undo(), NONE);
    }

    // ---- pages

    private static void noQuestionsNoPages() {
        for (int lines : new int[] {9, 30, 60}) {
            duePages("16: no questions on " + lines, same(0, 9, lines));
        }
        TestVersions test = same(0, 9, 9);
        Check.due("17: page(0, 0, 0)", test.page(0, 0, 0), BAD);
        Check.due("17: page(0, 0, 1)", test.page(0, 0, 1), BAD);
        duePages("16: one question of one line", same(1, 1, 9), 1);
        duePages("16: one question of nine lines", same(1, 9, 9), 1);
    }

    private static void aPageIsFullAndOneLineMore() {
        duePages("16: 9 lines on 9", same(3, 3, 9), 3);
        duePages("16: 12 lines on 11", same(4, 3, 11), 2, 2);
        duePages("16: 12 lines on 12", same(4, 3, 12), 4);
        duePages("16: 60 lines on 60", same(20, 3, 60), 20);
        duePages("16: 60 lines on 59", same(20, 3, 59), 10, 10);
        TestVersions test = same(20, 3, 60);
        Check.due("10: the last line on which one begins", test.at(0, 19, 3), 57);
        // the seed 0 puts question 0 last, so the pages are 30 lines and 31
        test.change(0, 0, 4);
        duePages("16: 61 lines on 60", test, 10, 10);
        dueHeights("17: 61 lines on 60", test, 30, 31);
        duePages("16: 25 lines on 25", inOrder(25, 4, 4, 4, 4, 9), 5);
        duePages("16: 25 lines on 24", inOrder(24, 4, 4, 4, 4, 9), 3, 2);
    }

    private static void noneIsCut() {
        duePages("16: 9 and 9 on 17", same(2, 9, 17), 1, 1);
        duePages("16: 9 and 9 on 18", same(2, 9, 18), 2);
        duePages("16: 5 and 5 on 9", same(2, 5, 9), 1, 1);
        duePages("16: 20 of 9 lines on 9", same(20, 9, 9), 1, 1, 1, 1, 1, 1, 1, 1, 1, 1, 1, 1, 1, 1, 1, 1, 1, 1, 1, 1);
    }

    /** With 12 lines a page, 9 would do as the greatest height; with 13, two pages are fewer, if higher. */
    private static void pagesAreAsFewAsCanBe() {
        duePages("16: 4 4 4 4 9 on 12", inOrder(12, 4, 4, 4, 4, 9), 2, 2, 1);
        dueHeights("17: 4 4 4 4 9 on 12", inOrder(12, 4, 4, 4, 4, 9), 8, 8, 9);
        duePages("16: 4 4 4 4 9 on 13", inOrder(13, 4, 4, 4, 4, 9), 3, 2);
        dueHeights("17: 4 4 4 4 9 on 13", inOrder(13, 4, 4, 4, 4, 9), 12, 13);
    }

    private static void greatestHeightIsAsSmallAsCanBe() {
        // 9 1 9 and 1 would stand on 19 lines, too
        duePages("17: 9 1 9 1 on 19", inOrder(19, 9, 1, 9, 1), 2, 2);
        dueHeights("17: 9 1 9 1 on 19", inOrder(19, 9, 1, 9, 1), 10, 10);
        // the greatest height is that of the one question of 9 lines
        duePages("17: 1 1 1 9 on 11", inOrder(11, 1, 1, 1, 9), 3, 1);
        duePages("17: 9 1 1 1 on 11", inOrder(11, 9, 1, 1, 1), 1, 3);
        duePages("17: 20 of 9 lines on 60", same(20, 9, 60), 5, 5, 5, 5);
        dueHeights("17: 20 of 9 lines on 60", same(20, 9, 60), 45, 45, 45, 45);
    }

    /** A question of 9 lines is the greatest height, so 3 times 3 lines may stand on a page, too. */
    private static void oneHighQuestionLetsTheOthersBeHigh() {
        duePages("17: 3 3 3 3 9 on 11", inOrder(11, 3, 3, 3, 3, 9), 1, 3, 1);
        duePages("17: 9 3 3 3 3 on 9", inOrder(9, 9, 3, 3, 3, 3), 1, 1, 3);
        duePages("17: 3 9 3 3 3 on 9", inOrder(9, 3, 9, 3, 3, 3), 1, 1, 3);
        TestVersions test = inOrder(11, 3, 3, 3, 3, 9);
        Check.due("16: three pages", test.pages(0), 3);
        test.remove(4);
        duePages("17: without the high one 6 lines do", test, 2, 2);
    }

    private static void firstPageHasAsFewAsCanBe() {
        // 1 1 and 9 1 1, or 1 1 9 and 1 1: 11 lines both; 1 and 1 9 1 1 would be 12
        duePages("17: 1 1 9 1 1 on 11", inOrder(11, 1, 1, 9, 1, 1), 2, 3);
        // 9 1 and 1 1 9, or 9 1 1 and 1 9: 11 lines both
        duePages("17: 9 1 1 1 9 on 11", inOrder(11, 9, 1, 1, 1, 9), 2, 3);
        duePages("17: 7 of 3 lines on 9", same(7, 3, 9), 1, 3, 3);
        duePages("17: 20 of 9 lines on 27", same(20, 9, 27), 2, 3, 3, 3, 3, 3, 3);
        duePages("17: 19 of 9 lines on 27", same(19, 9, 27), 1, 3, 3, 3, 3, 3, 3);
        duePages("17: 18 of 9 lines on 27", same(18, 9, 27), 3, 3, 3, 3, 3, 3);
    }

    /** 9, then 9, then 1 9, or 9, then 9 1, then 9: 10 lines both, and the first page is the same. */
    private static void secondPageHasAsFewAsCanBe() {
        duePages("17: 9 9 1 9 on 10", inOrder(10, 9, 9, 1, 9), 1, 1, 2);
        // 5 of 4 lines on 9: 1 with 2 and 2; 7 of 4 lines on 9: 1, 2, 2, 2
        duePages("17: 5 of 4 lines on 9", same(5, 4, 9), 1, 2, 2);
        duePages("17: 7 of 4 lines on 9", same(7, 4, 9), 1, 2, 2, 2);
    }

    private static void twentyPagesAndOnePage() {
        TestVersions most = same(20, 9, 9);
        Check.due("16: 20 pages", most.pages(0), 20);
        Check.due("17: questions of the last page", most.page(0, 19, 0), 1);
        Check.due("17: height of the last page", most.page(0, 19, 1), 9);
        Check.due("17: no page 20", most.page(0, 20, 0), BAD);
        Check.due("10: page of the last place", most.at(0, 19, 2), 19);
        Check.due("10: its line", most.at(0, 19, 3), 0);
        TestVersions least = same(20, 1, 20);
        Check.due("16: one page", least.pages(0), 1);
        Check.due("17: all on it", least.page(0, 0, 0), 20);
        Check.due("17: its height", least.page(0, 0, 1), 20);
        Check.due("17: no page 1", least.page(0, 1, 0), BAD);
        Check.due("10: line of the last place", least.at(0, 19, 3), 19);
    }

    // ---- promises 16 and 17: the ranges

    private static void pagesBesideTheRange() {
        Check.due("16: without versions", Made.questions(3).pages(0), BAD);
        for (int version : new int[] {-1, 1, 6, MIN, MAX}) {
            Twins.dueUnchanged("16: pages(" + version + ")", Made::threeWithSheets, BAD, test -> test.pages(version));
        }
        Twins.dueUnchanged("16: pages(0)", Made::threeWithSheets, 1, test -> test.pages(0));
        Twins.dueUnchanged("16: pages(5) of six", Made::full, 1, test -> test.pages(5));
        Twins.dueUnchanged("16: pages(6) of six", Made::full, BAD, test -> test.pages(6));
    }

    private static void dueBadPage(int version, int page, int what) {
        Twins.dueUnchanged("17: page(" + version + ", " + page + ", " + what + ")", Made::threeWithSheets, BAD,
                test -> test.page(version, page, what));
    }

    private static void pageBesideTheRange() {
        for (int b : new int[] {-1, MIN, MAX}) {
            dueBadPage(b, 0, 0);
            dueBadPage(0, b, 0);
            dueBadPage(0, 0, b);
            dueBadPage(b, b, b);
        }
        dueBadPage(1, 0, 0);
        dueBadPage(0, 1, 0);
        dueBadPage(0, 1, 1);
        dueBadPage(0, 0, 2);
        dueBadPage(1, 1, 2);
        Check.due("17: without versions", Made.questions(3).page(0, 0, 0), BAD);
        Twins.dueUnchanged("17: page(0, 0, 0)", Made::threeWithSheets, 3, test -> test.page(0, 0, 0));
        Twins.dueUnchanged("17: page(0, 0, 1)", Made::threeWithSheets, 9, test -> test.page(0, 0, 1));
        TestVersions two = same(2, 5, 9);
        Check.due("17: the last page of two", two.page(0, 1, 0), 1);
        Check.due("17: behind it", two.page(0, 2, 0), BAD);
        Check.due("17: no version 1", two.page(1, 0, 0), BAD);
    }

    /** P of a version is looked at anew whenever P or the questions change, or a change is undone. */
    private static void pagesFollowTheQuestions() {
        TestVersions test = same(3, 3, 9);
        duePages("16: 9 lines on 9", test, 3);
        test.change(1, 0, 4);
        Check.due("16: 10 lines on 9", test.pages(0), 2);
        test.undo();
        duePages("16: 9 lines on 9 again", test, 3);
        test.add(1, 2, 0, 3, 0);
        Check.due("16: 10 lines of four", test.pages(0), 2);
        test.remove(3);
        duePages("16: and of three", test, 3);
        test.setLines(60);
        test.setLines(9);
        duePages("16: 60 lines in between", test, 3);
    }
}
