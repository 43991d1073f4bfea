/** Compares answers with those that are due, and ends a test with exit code 1 if one was not. */
final class Due {
    private String sentence = "";
    private int wrong = 0;
    private int asked = 0;

    /** The sentence of the document that the answers from here on are about. */
    void about(String sentence) {
        this.sentence = sentence + ": ";
    }

    void is(String what, long got, long want) {
        asked++;
        if (got != want) {
            wrong++;
            System.out.println(sentence + what + " answered " + got + ", due is " + want);
        }
    }

    void is(String what, boolean got, boolean want) {
        is(what, got ? 1L : 0L, want ? 1L : 0L);
    }

    /** What told(0), told(1) .. answer. */
    void told(String when, LedgerShares x, int... want) {
        for (int what = 0; what < want.length; what++) {
            is(when + ": told(" + what + ")", x.told(what), want[what]);
        }
    }

    /** What of(call, 0), of(call, 1) .. answer. */
    void of(String when, LedgerShares x, int call, int... want) {
        for (int what = 0; what < want.length; what++) {
            is(when + ": of(" + call + ", " + what + ")", x.of(call, what), want[what]);
        }
    }

    /** That two objects, one of which was asked for more, can't be told apart. */
    void alike(String when, LedgerShares x, LedgerShares y) {
        String got = all(x);
        String want = all(y);
        is(when + ": all that can be asked, " + got + " for " + want, got.equals(want), true);
    }

    /** All that an object can be asked for, in fewer calls than an object is good for. */
    private static String all(LedgerShares x) {
        StringBuilder text = new StringBuilder();
        int calls = x.count(0);
        for (int what = 0; what <= 2; what++) {
            text.append(" count ").append(x.count(what));
        }
        for (int what = 0; what <= 7; what++) {
            text.append(" told ").append(x.told(what)).append(" amount ").append(x.amount(what));
        }
        for (int call = 0; call < calls; call++) {
            text.append(" outcome ").append(x.outcome(call)).append(" of");
            for (int what = 0; what <= 3; what++) {
                text.append(' ').append(x.of(call, what));
            }
            text.append(" behind ").append(x.behind(call, call % 8));
        }
        for (int worker = 0; worker < 16; worker++) {
            int n = x.gone(worker, 0);
            x.gone(worker, n);
            text.append(" gone ").append(n);
        }
        return text.toString();
    }

    /** So that a broken class does not print for ever. */
    boolean hasManyWrong() {
        return wrong > 20;
    }

    void end() {
        System.out.println(wrong == 0 ? asked + " answers are as due" : wrong + " answers are not as due");
        if (wrong != 0) {
            System.exit(1);
        }
    }
}
