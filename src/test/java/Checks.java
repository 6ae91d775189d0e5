/** Compares answers with those that are due, and ends a test with exit code 1 if one was wrong. */
final class Checks {
    private int made;
    private int wrong;
    private String sentence = "";
    private int madeBefore = -1;

    /** The document's words, shortened to the one case that the checks from here on would find broken. */
    void sentence(String words) {
        endSentence();
        sentence = words;
        madeBefore = made;
    }

    /** A sentence of which nothing was checked has no test. */
    private void endSentence() {
        if (made == madeBefore) {
            wrong++;
            System.out.println("nothing was checked of: " + sentence);
        }
    }

    void due(String what, long got, long want) {
        made++;
        if (got != want) {
            tellWrong(what, Long.toString(got), Long.toString(want));
        }
    }

    void due(String what, boolean got, boolean want) {
        due(what, got ? 1 : 0, want ? 1 : 0);
    }

    void due(String what, String got, String want) {
        made++;
        if (!got.equals(want)) {
            tellWrong(what, got, want);
        }
    }

    /** The command gets this status and no response, and changes nothing but the input. */
    void refused(String what, Terminal t, Command command, int status) {
        String before = t.stateText();
        due(what, command.sendTo(t), status);
        due(what + ": the response", t.card.length(), 0);
        due(what + ": the input", t.card.waiting(), 0);
        due(what + ": the card after it", t.stateText(), before);
    }

    private void tellWrong(String what, String got, String want) {
        wrong++;
        if (!sentence.isEmpty()) {
            System.out.println("broken: " + sentence);
        }
        System.out.println(what + " answered " + got + ", due is " + want);
    }

    boolean allRight() {
        return wrong == 0;
    }

    void end() {
        endSentence();
        System.out.println(made + " answers, " + wrong + " not as due");
        if (wrong != 0 || made == 0) {
            System.exit(1);
        }
    }
}
