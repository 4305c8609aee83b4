import java.util.Arrays;

/** Promises 15 to 17, and the pages of promise 10. */
public final class PagesTest {
    private static final int BAD = TestVersions.BAD;
    private static final int NONE = TestVersions.NONE;

    private PagesTest() {
    }

    public static void main(String[] args) {
        setLinesAnswersThePrevious();
        equalHeights();
        fewestPagesFirst();
        pagesRefuse();
        for (int seed = 0; seed < 150; seed++) {
            bestOfAllWays(seed);
        }
        Check.end("PagesTest");
    }

    private static void setLinesAnswersThePrevious() {
        TestVersions test = new TestVersions();
        Check.due("15: setLines(60)", test.setLines(60), 30);
        Check.due("15: setLines(9)", test.setLines(9), 60);
        Check.due("15: setLines(9) again", test.setLines(9), 9);
        for (int lines : new int[] {8, 61, 0, -30, Integer.MAX_VALUE, Integer.MIN_VALUE}) {
            Check.due("15: setLines(" + lines + ")", test.setLines(lines), BAD);
        }
        Check.due("15: it is an act, an error is none", test.undo(), 2);
        Check.due("15: still 9", test.setLines(20), 9);
        test.undo();
        test.undo();
        Check.due("15: undone", test.setLines(20), 60);
        test.version(1);
        test.guess(0, 0, 0);
        Check.due("15: with sheets, too", test.setLines(21), 20);
    }

    private static TestVersions same(int many, int height) {
        TestVersions test = new TestVersions();
        for (int i = 0; i < many; i++) {
            test.add(height, 2, 0, 0, 0);
        }
        test.version(3);
        return test;
    }

    private static void dueCounts(String name, TestVersions test, int height, int... counts) {
        Check.due(name + ": pages", test.pages(0), counts.length);
        int place = 0;
        for (int page = 0; page < counts.length; page++) {
            Check.due(name + ": page(0, " + page + ", 0)", test.page(0, page, 0), counts[page]);
            Check.due(name + ": page(0, " + page + ", 1)", test.page(0, page, 1), counts[page] * height);
            for (int i = 0; i < counts[page]; i++) {
                Check.due(name + ": at(0, " + place + ", 2)", test.at(0, place, 2), page);
                Check.due(name + ": at(0, " + place + ", 3)", test.at(0, place, 3), i * height);
                place++;
            }
        }
        Check.due(name + ": no page more", test.page(0, counts.length, 0), BAD);
    }

    private static void equalHeights() {
        dueCounts("17: 20 of 9 lines", same(20, 9), 9, 2, 3, 3, 3, 3, 3, 3);
        dueCounts("17: 10 of 9 lines", same(10, 9), 9, 1, 3, 3, 3);
        dueCounts("17: 20 of 1 line", same(20, 1), 1, 20);
        dueCounts("17: no questions", same(0, 1), 1);
        dueCounts("17: one question", same(1, 9), 9, 1);
        TestVersions test = same(7, 3);
        dueCounts("17: 7 of 3 lines", test, 3, 7);
        test.setLines(9);
        dueCounts("17: 7 of 3 lines on 9", test, 3, 1, 3, 3);
        test.setLines(12);
        dueCounts("17: 7 of 3 lines on 12", test, 3, 3, 4);
        test.setLines(20);
        dueCounts("17: 7 of 3 lines on 20", test, 3, 3, 4);
        test.setLines(21);
        dueCounts("17: 7 of 3 lines on 21", test, 3, 7);
        test.setLines(11);
        dueCounts("17: 7 of 3 lines on 11", test, 3, 1, 3, 3);
        TestVersions most = same(20, 9);
        most.setLines(9);
        Check.due("16: a page each", most.pages(0), 20);
        Check.due("17: the last of 20", most.page(0, 19, 1), 9);
        Check.due("10: page of the last", most.at(0, 19, 2), 19);
        Check.due("17: beyond 20", most.page(0, 20, 0), BAD);
    }

    private static void fewestPagesFirst() {
        TestVersions test = same(8, 3);
        test.setLines(15);
        dueCounts("16: 8 of 3 lines on 15", test, 3, 4, 4);
        test.undo();
        dueCounts("16: undone", test, 3, 8);
        test.add(7, 2, 0, 0, 0);
        Check.due("16: 31 lines on 30", test.pages(0), 2);
    }

    private static void pagesRefuse() {
        TestVersions test = same(3, 9);
        test.setLines(9);
        for (int b : new int[] {-1, 3, 1000, Integer.MAX_VALUE, Integer.MIN_VALUE}) {
            Check.due("16: pages(" + b + ")", test.pages(b), BAD);
            Check.due("17: page(" + b + ", 0, 0)", test.page(b, 0, 0), BAD);
            Check.due("17: page(0, " + b + ", 0)", test.page(0, b, 0), BAD);
            Check.due("17: page(0, 0, " + b + ")", test.page(0, 0, b), BAD);
        }
        Check.due("16: no version 1", test.pages(1), BAD);
        Check.due("17: no version 1", test.page(1, 0, 0), BAD);
        Check.due("17: what 2", test.page(0, 0, 2), BAD);
        for (int left = 4; left >= 0; left--) {
            Check.due("16, 17: no acts", test.undo(), left);
        }
        Check.due("16, 17: no acts", test.undo(), NONE);
    }

    /** Looks at every way to cut the row of heights into pages. */
    private static void bestOfAllWays(int seed) {
        TestVersions test = new TestVersions();
        int many = 1 + seed % 11;
        int x = seed * 31 + 7;
        for (int i = 0; i < many; i++) {
            x = x * 69069 + 1;
            test.add(1 + (x >>> 20) % 9, 2, 0, 0, 0);
        }
        test.version(seed);
        int lines = 9 + (x >>> 16) % 20;
        test.setLines(lines);
        int[] heights = new int[many];
        for (int p = 0; p < many; p++) {
            heights[p] = test.question(test.at(0, p, 0), 0);
        }
        int[] best = null;
        for (int cuts = 0; cuts < 1 << many - 1; cuts++) {
            int[] way = way(heights, cuts);
            if (way[1] <= lines && (best == null || Arrays.compare(way, best) < 0)) {
                best = way;
            }
        }
        Check.due("16: pages, seed " + seed, test.pages(0), best[0]);
        int tallest = 0;
        for (int page = 0; page < best[0]; page++) {
            Check.due("17: page " + page + ", seed " + seed, test.page(0, page, 0), best[2 + page]);
            tallest = Math.max(tallest, test.page(0, page, 1));
        }
        Check.due("17: the greatest height, seed " + seed, tallest, best[1]);
    }

    /** The number of pages, the greatest height, and the numbers of questions: the smaller, the better. */
    private static int[] way(int[] heights, int cuts) {
        int[] way = new int[heights.length + 2];
        int page = 0;
        int height = 0;
        for (int p = 0; p < heights.length; p++) {
            if (p > 0 && (cuts >> p - 1 & 1) == 1) {
                page++;
                height = 0;
            }
            height += heights[p];
            way[1] = Math.max(way[1], height);
            way[2 + page]++;
        }
        way[0] = page + 1;
        return way;
    }
}
