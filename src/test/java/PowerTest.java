/** The power fails before each write of a command in turn: then all of it is there, or nothing. */
final class PowerTest {
    private static final int OFF = AppletFirewall.OFF;
    private static final int DONE = Terminal.DONE;
    private static final Checks CHECKS = new Checks();

    public static void main(String[] args) {
        wholeOrNothing("update", 1, t -> t.update(0, 61, 62, 63, 64));
        wholeOrNothing("update of all", 1, t -> t.update(0, Terminal.row(100, 16)));
        wholeOrNothing("change secret", 1, t -> t.changeSecret(70, 71));
        wholeOrNothing("grant", 1, t -> t.grant(5, 3, 1, 2, 1));
        wholeOrNothing("revoke", 1, t -> t.revoke(4));
        wholeOrNothing("update shared", 2, t -> t.updateShared(4, 1, 81, 82));
        changesInTransaction();
        endingTransaction("commit", 0, t -> t.commit());
        endingTransaction("abort", 12, t -> t.abort());
        endingTransaction("select", 12, t -> t.select(2));
        verifyCutOff();
        undoCutOffTwice();
        CHECKS.end();
    }

    /** Applet 1 has data and has granted share 4 to applet 2; the given applet is logged in. */
    private static Terminal prepared(int applet) {
        Terminal t = Terminal.loggedIn(1);
        t.update(0, Terminal.row(11, 16));
        t.grant(4, 2, 3, 5, 1);
        t.logIn(applet);
        return t;
    }

    /** All that can be seen of the permanent memory; the secret of applet 1 is seen by trying one. */
    private static String memoryText(Terminal t) {
        String seen = t.memoryText();
        t.select(1);
        return seen + " verify " + t.verify(70, 71);
    }

    private static void wholeOrNothing(String what, int applet, Command command) {
        String before = memoryText(prepared(applet));
        Terminal whole = prepared(applet);
        int start = whole.card.writes();
        CHECKS.due(what, command.sendTo(whole), DONE);
        int needed = whole.card.writes() - start;
        String after = memoryText(whole);
        CHECKS.due(what + " changes something", before.equals(after), false);
        for (int n = 0; n < needed; n++) {
            Terminal t = prepared(applet);
            t.card.tear(n);
            CHECKS.due(what + " cut off at " + n, command.sendTo(t), OFF);
            CHECKS.due(what + ": writes", t.card.writes(), start + n);
            // A note counts from its third write on; each change has four writes.
            CHECKS.due(what + ": notes at " + n, t.card.reset(), (n + 1) / 4);
            CHECKS.due(what + ": the memory after " + n, memoryText(t), before);
        }
        Terminal spared = prepared(applet);
        spared.card.tear(needed);
        CHECKS.due(what + " not cut off", command.sendTo(spared), DONE);
        CHECKS.due(what + ": nothing to undo", spared.card.reset(), 0);
        // The fuse has burnt down to the next write, and the look at the memory writes too.
        spared.card.tear(1000);
        CHECKS.due(what + ": the memory", memoryText(spared), after);
    }

    private static void changesInTransaction() {
        String before = prepared(1).dataText(1);
        for (int n = 0; n < 12; n++) {
            Terminal t = prepared(1);
            t.begin();
            t.update(2, 5, 6, 7, 8, 9);
            t.card.tear(n);
            CHECKS.due("second update cut off at " + n, t.update(4, 50, 60, 70), OFF);
            CHECKS.due("its notes and those before", t.card.reset(), 5 + (n + 1) / 4);
            CHECKS.due("data after " + n, t.dataText(1), before);
        }
    }

    /** A transaction of twelve notes is ended; undoing is how many bytes its end puts back. */
    private static void endingTransaction(String what, int undoing, Command end) {
        String before = prepared(1).dataText(1);
        for (int n = 0; n <= undoing + 1; n++) {
            Terminal t = prepared(1);
            t.begin();
            t.update(0, Terminal.row(90, 10));
            t.update(9, 1, 2);
            String changed = t.dataText(1);
            t.card.tear(n);
            boolean spared = n == undoing + 1;
            CHECKS.due(what + " with " + n + " writes", end.sendTo(t), spared ? DONE : OFF);
            CHECKS.due(what + ": notes undone by reset", t.card.reset(), spared ? 0 : 12);
            boolean kept = spared && undoing == 0;
            CHECKS.due(what + ": data", t.dataText(1), kept ? changed : before);
        }
    }

    private static void verifyCutOff() {
        for (int n = 0; n <= 2; n++) {
            Terminal t = new Terminal();
            t.select(2);
            t.card.tear(n);
            CHECKS.due("right, cut off at " + n, t.verify(0, 0), n < 2 ? OFF : DONE);
            CHECKS.due("session", t.card.session(), n < 2 ? OFF : 10);
            t.card.reset();
            CHECKS.due("tries", t.card.tries(2), n == 1 ? 2 : 3);
        }
        for (int n = 0; n <= 1; n++) {
            Terminal t = new Terminal();
            t.select(2);
            t.card.tear(n);
            CHECKS.due("wrong, cut off at " + n, t.verify(5, 5), n < 1 ? OFF : 25538);
            t.card.reset();
            CHECKS.due("tries", t.card.tries(2), 3 - n);
        }
        Terminal last = new Terminal();
        last.select(2);
        last.verify(5, 5);
        last.verify(5, 5);
        last.card.tear(1);
        CHECKS.due("the last try, cut off", last.verify(0, 0), OFF);
        last.card.reset();
        last.select(2);
        CHECKS.due("it is spent", last.verify(0, 0), 27011);
    }

    private static void undoCutOffTwice() {
        Terminal t = prepared(1);
        String before = t.dataText(1);
        t.begin();
        t.update(0, 1, 2, 3);
        t.update(0, 4, 5, 6);
        t.card.tear(4);
        CHECKS.due("abort cut off", t.abort(), OFF);
        t.card.tear(6);
        CHECKS.due("reset cut off", t.card.reset(), OFF);
        t.card.tear(2);
        CHECKS.due("reset cut off again", t.card.reset(), OFF);
        CHECKS.due("reset", t.card.reset(), 6);
        CHECKS.due("all is back", t.dataText(1), before);
        CHECKS.due("failures", t.card.failures(), 3);
    }
}
