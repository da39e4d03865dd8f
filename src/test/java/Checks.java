/**
 * Counts and prints the answers that are not as due, under the sentence of the document that they
 * belong to; a test's main method closes with end().
 */
final class Checks {
    private int wrong = 0;
    private int made = 0;
    private String words = "";
    private int wrongBefore = 0;
    private int madeBefore = 0;
    private int untested = 0;

    /** From here on, the answers are those of this sentence. */
    void sentence(String where, String itsWords) {
        closeSentence();
        words = where + ": \"" + itsWords + "\": ";
        wrongBefore = wrong;
        madeBefore = made;
    }

    private void closeSentence() {
        if (words.isEmpty()) {
            return;
        }
        if (made == madeBefore) {
            untested++;
            System.out.println(words + "no answer was looked at");
        } else if (wrong != wrongBefore) {
            System.out.println("BROKEN " + words + (wrong - wrongBefore) + " answers not as due");
        }
        words = "";
    }

    void due(String call, long got, long want) {
        made++;
        if (got != want) {
            wrong++;
            System.out.println(words + call + " answered " + got + ", due is " + want);
        }
    }

    void due(String call, boolean got, boolean want) {
        due(call, got ? 1L : 0L, want ? 1L : 0L);
    }

    void dueCounts(String where, CodeBlocks x, int... want) {
        for (int what = 0; what < want.length; what++) {
            due(where + ": count(" + what + ")", x.count(what), want[what]);
        }
    }

    void dueReceived(String where, CodeBlocks x, int... want) {
        due(where + ": size()", x.size(), want.length);
        for (int k = 0; k < want.length; k++) {
            due(where + ": byteAt(" + k + ")", x.byteAt(k), want[k]);
        }
        due(where + ": byteAt(" + want.length + ")", x.byteAt(want.length), CodeBlocks.NONE);
    }

    void dueSent(String where, CodeBlocks x, int... want) {
        for (int k = 0; k < want.length; k++) {
            due(where + ": sent(" + k + ")", x.sent(k), want[k]);
        }
        due(where + ": sent(" + want.length + ")", x.sent(want.length), CodeBlocks.NONE);
    }

    int wrong() {
        return wrong;
    }

    void end() {
        closeSentence();
        System.out.println(made + " answers looked at, " + wrong + " not as due");
        if (wrong != 0 || made == 0 || untested != 0) {
            System.exit(1);
        }
    }
}
