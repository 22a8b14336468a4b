/** Counts answers that are as due, and prints those that are not. */
final class Due {
    private int right;
    private int wrong;
    private String sentence = "";
    private int askedBefore;

    /** From here on, what is asked tests these words of the document. */
    void sentence(String words) {
        endSentence();
        sentence = "\"" + words + "\": ";
        askedBefore = right + wrong;
    }

    private void endSentence() {
        if (!sentence.isEmpty() && right + wrong == askedBefore) {
            wrong++;
            System.out.println(sentence + "nothing was asked");
        }
    }

    void is(String call, long got, long want) {
        if (got == want) {
            right++;
        } else {
            wrong++;
            System.out.println(sentence + call + " answered " + got + ", due is " + want);
        }
    }

    void is(String call, boolean got, boolean want) {
        is(call, got ? 1L : 0L, want ? 1L : 0L);
    }

    void yes(String call, boolean got) {
        is(call, got, true);
    }

    void no(String call, boolean got) {
        is(call, got, false);
    }

    void same(String call, String got, String want) {
        if (got.equals(want)) {
            right++;
        } else {
            wrong++;
            System.out.println(sentence + call + " is " + got + ", due is " + want);
        }
    }

    /** Ends the program with exit code 1 if an answer was wrong, or if none was asked for. */
    void end() {
        endSentence();
        System.out.println(right + " answers as due, " + wrong + " not");
        if (wrong != 0 || right == 0) {
            System.exit(1);
        }
    }
}
