/**
 * Counts and prints the answers that are not the ones that are due. Each belongs
 * to a sentence of the document; a sentence that nothing was asked for is wrong too.
 */
final class Check {
    private String sentence;
    private int sentences;
    private int askedForSentence;
    private int asked;
    private int wrong;

    /** From here on the answers tell whether these words of the document hold. */
    void sentence(String place, String words) {
        closeSentence();
        sentence = place + ", \"" + words + "\"";
        sentences++;
        askedForSentence = 0;
    }

    void due(String what, long got, long want) {
        asked++;
        askedForSentence++;
        if (got != want) {
            wrong++;
            String where = sentence == null ? "" : sentence + ": ";
            System.out.println(where + what + " answered " + got + ", due is " + want);
        }
    }

    void due(String what, boolean got, boolean want) {
        due(what, got ? 1L : 0L, want ? 1L : 0L);
    }

    void yes(String what, boolean got) {
        due(what, got, true);
    }

    void no(String what, boolean got) {
        due(what, got, false);
    }

    /** Ends the program, with exit code 1 if there was a wrong answer. */
    void end() {
        closeSentence();
        System.out.println(sentences + " sentences, " + asked + " answers, " + wrong + " of them wrong");
        if (wrong != 0 || asked == 0) {
            System.exit(1);
        }
    }

    private void closeSentence() {
        if (sentence != null && askedForSentence == 0) {
            wrong++;
            System.out.println(sentence + ": nothing was asked");
        }
    }
}
