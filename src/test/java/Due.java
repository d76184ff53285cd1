import java.util.function.IntSupplier;

/** Compares answers with the ones that are due, and tells the wrong ones by the sentence that they break. */
final class Due {
    private static final int TOLD_AT_MOST = 20;

    private final String test;
    private String sentence = "";
    private int right = 0;
    private int wrong = 0;

    Due(String test) {
        this.test = test;
    }

    /** What is compared from now on holds up this sentence. */
    void by(String newSentence) {
        sentence = newSentence;
    }

    int compared() {
        return right + wrong;
    }

    void is(String what, long got, long want) {
        if (got == want) {
            right++;
            return;
        }
        wrong++;
        if (wrong <= TOLD_AT_MOST) {
            System.out.println(test + ": " + sentence + what + " answered " + got + ", due is " + want);
        }
    }

    void holds(String what, boolean holds) {
        is(what, holds ? 1 : 0, 1);
    }

    /** The call answers this, and nothing at all is another thing behind it. */
    void onlyTells(String what, ChangeFeed feed, IntSupplier call, int want) {
        String before = Feeds.everything(feed);
        is(what, call.getAsInt(), want);
        holds("nothing changes by: " + what, Feeds.everything(feed).equals(before));
    }

    /** The call gives this error, and so changes nothing. */
    void refuses(String what, ChangeFeed feed, IntSupplier call, int error) {
        onlyTells(what, feed, call, error);
    }

    /** The call records one state, and undo brings that one back. */
    void isAChange(String what, ChangeFeed feed, IntSupplier call) {
        String before = Feeds.told(feed);
        int undos = feed.count(12);
        holds("no error by: " + what, call.getAsInt() >= 0);
        is("undos behind: " + what, feed.count(12), Math.min(undos + 1, 6));
        is("undo of: " + what, feed.undo(), Math.min(undos, 5));
        holds("as it was before: " + what, Feeds.told(feed).equals(before));
    }

    void end() {
        System.out.println(test + ": " + right + " answers right, " + wrong + " wrong");
        if (wrong != 0 || right == 0) {
            System.exit(1);
        }
    }
}
