import java.util.function.Function;
import java.util.function.Supplier;
import java.util.function.ToLongFunction;

/**
 * Shows that a call changes nothing: an object that got it and a twin that did not tell the same ever
 * after. Some looks change what they look at, so each look is taken at a pair of its own.
 */
final class Twins {
    private static final int MOST_UNDONE = 7;

    private Twins() {
    }

    /** The call is due to answer so, and to leave all as it was. */
    static void dueUnchanged(String call, Supplier<TestVersions> making, long due, ToLongFunction<TestVersions> calling) {
        look(call, "numbers", making, due, calling, Twins::numbers);
        look(call, "the lines of a page", making, due, calling, test -> "" + test.setLines(30));
        look(call, "the buffer", making, due, calling, Twins::buffer);
        look(call, "the history", making, due, calling, Twins::history);
    }

    private static void look(String call, String what, Supplier<TestVersions> making, long due,
            ToLongFunction<TestVersions> calling, Function<TestVersions, String> looking) {
        TestVersions called = making.get();
        Check.due(call, calling.applyAsLong(called), due);
        String told = looking.apply(called);
        String twin = looking.apply(making.get());
        Check.holds(call + " leaves " + what + ": " + told + " as " + twin, told.equals(twin));
    }

    private static String numbers(TestVersions test) {
        return test.questions() + " " + test.versions() + " " + test.fingerprint();
    }

    /** Hands the buffer in for a test of 20 questions with all the letters, filled up with "-". */
    private static String buffer(TestVersions test) {
        test.forget();
        while (test.versions() > 0) {
            test.drop();
        }
        while (test.questions() > 0) {
            test.remove(0);
        }
        for (int i = 0; i < 20; i++) {
            test.add(1, 5, 0, 31, 0);
        }
        test.version(0);
        StringBuilder told = new StringBuilder();
        int typed = test.type('-');
        told.append(typed);
        while (typed > 0 && typed < 20) {
            typed = test.type('-');
        }
        told.append(' ').append(test.sheet(0));
        for (int p = 0; p < 20; p++) {
            told.append(' ').append(test.answer(0, test.at(0, p, 0)));
        }
        return told.toString();
    }

    /** The states of the history, with the lines of a page of each. */
    private static String history(TestVersions test) {
        StringBuilder told = new StringBuilder();
        for (int i = 0; i < MOST_UNDONE; i++) {
            told.append(' ').append(test.undo()).append(' ').append(test.fingerprint());
            told.append(' ').append(test.setLines(30)).append(' ').append(test.undo());
        }
        return told.toString();
    }
}
