/** The promises 1 to 15, one after the other; what single commands do is in CommandsTest. */
final class PromisesTest {
    private static final int OFF = AppletFirewall.OFF;
    private static final int NONE = AppletFirewall.NONE;
    private static final int DONE = Terminal.DONE;
    private static final Checks CHECKS = new Checks();

    public static void main(String[] args) {
        promise1NewObject();
        promise2Put();
        promise2PutRefuses();
        promise3Run();
        promise4Waiting();
        promise5LengthAnd6Response();
        promise7Tear();
        promise7TearRefuses();
        promise7LongestFuse();
        promise7FortyFailures();
        promise8Reset();
        promise8ResetCutOff();
        promise9Writes();
        promise10Failures();
        promise11Data();
        promise12Tries();
        promise13Share();
        promise14Pending();
        promise15Session();
        CHECKS.end();
    }

    private static void promise1NewObject() {
        AppletFirewall x = new AppletFirewall();
        for (int applet = 0; applet < 4; applet++) {
            for (int i = 0; i < 16; i++) {
                CHECKS.due("1: data", x.data(applet, i), 0);
            }
            CHECKS.due("1: tries", x.tries(applet), 3);
        }
        for (int share = 0; share < 8; share++) {
            CHECKS.due("1: share", x.share(share), 0);
        }
        CHECKS.due("1: pending", x.pending(), 0);
        CHECKS.due("1: session", x.session(), NONE);
        CHECKS.due("1: waiting", x.waiting(), 0);
        CHECKS.due("1: length", x.length(), 0);
        CHECKS.due("1: writes", x.writes(), 0);
        CHECKS.due("1: failures", x.failures(), 0);
        CHECKS.due("1: nothing to undo", x.reset(), 0);
        for (int applet = 0; applet < 4; applet++) {
            CHECKS.due("1: the first secret", Terminal.loggedIn(applet).card.session(), applet + 8);
        }
    }

    private static void promise2Put() {
        Terminal t = Terminal.loggedIn(0);
        // The bytes above the lowest n are not looked at.
        CHECKS.due("2: header", t.card.put(0x7777777780D60001L, 4), true);
        CHECKS.due("2: the rest", t.card.put(0x77770301FFFEL, 4), true);
        CHECKS.due("2: run", t.card.run(), DONE);
        CHECKS.due("2: highest first", t.dataText(0).substring(0, 15), "[0, 1, 255, 254");

        Terminal u = Terminal.loggedIn(0);
        CHECKS.due("2: one byte", u.card.put(-128, 1), true);
        CHECKS.due("2: three bytes", u.card.put(0xD60000, 3), true);
        CHECKS.due("2: eight bytes", u.card.put(0x0702030405060708L, 8), true);
        CHECKS.due("2: run of pieces", u.card.run(), DONE);
        CHECKS.due("2: in their order", u.dataText(0), "[2, 3, 4, 5, 6, 7, 8, 0, 0, 0, 0, 0, 0, 0, 0, 0]");

        Terminal v = Terminal.loggedIn(0);
        CHECKS.due("2: a negative long", v.card.put(0x80D6000003FFFEFDL, 8), true);
        CHECKS.due("2: run of it", v.card.run(), DONE);
        CHECKS.due("2: its bytes", v.dataText(0).substring(0, 14), "[255, 254, 253");
    }

    private static void promise2PutRefuses() {
        AppletFirewall x = new AppletFirewall();
        int[] wrong = {0, -1, 9, 10, Integer.MIN_VALUE, Integer.MAX_VALUE};
        for (int n : wrong) {
            CHECKS.due("2: put with n " + n, x.put(1, n), false);
        }
        CHECKS.due("2: nothing was put", x.waiting(), 0);
        x.put(1, 8);
        x.put(1, 8);
        x.put(1, 7);
        CHECKS.due("2: a 25th byte", x.put(1, 2), false);
        CHECKS.due("2: 23 bytes stay", x.waiting(), 23);
        CHECKS.due("2: the 24th byte", x.put(1, 1), true);
        CHECKS.due("2: full", x.put(1, 1), false);
        CHECKS.due("2: n near overflow", x.put(1, Integer.MAX_VALUE), false);
        CHECKS.due("2: 24 bytes", x.waiting(), 24);

        AppletFirewall off = cutOff();
        CHECKS.due("2: put when off", off.put(1, 1), false);
        CHECKS.due("2: nothing waits when off", off.waiting(), 0);
        off.reset();
        CHECKS.due("2: nothing was kept", off.waiting(), 0);
        CHECKS.due("2: put when on again", off.put(1, 1), true);
    }

    private static void promise3Run() {
        Terminal t = new Terminal();
        CHECKS.due("3: empty input", t.card.run(), 26368);
        t.putAll(128, 164, 0, 0, 1, 2);
        CHECKS.due("3: select", t.card.run(), DONE);
        CHECKS.due("3: the input is empty", t.card.waiting(), 0);
        CHECKS.due("3: the response", t.responseText(), "[3]");
        CHECKS.due("3: the input is not run again", t.card.run(), 26368);
        CHECKS.due("3: no response if refused", t.card.length(), 0);
        t.select(2);
        CHECKS.due("3: select again", t.card.length(), 1);
        CHECKS.due("3: verify", t.verify(0, 0), DONE);
        CHECKS.due("3: no response is said", t.card.length(), 0);
        t.select(2);
        CHECKS.due("3: select 4", t.select(4), 27266);
        CHECKS.due("3: response of select 4", t.card.length(), 0);

        Terminal u = Terminal.loggedIn(1);
        u.read(0, 4);
        u.card.tear(0);
        CHECKS.due("3: goes off", u.verify(0, 0), OFF);
        CHECKS.due("3: input of the card that is off", u.card.waiting(), 0);
        CHECKS.due("3: response of the card that is off", u.card.length(), 0);
        CHECKS.due("3: run when off", u.card.run(), OFF);
        CHECKS.due("3: run when off, again", u.card.run(), OFF);
    }

    private static void promise4Waiting() {
        AppletFirewall x = new AppletFirewall();
        x.put(5, 3);
        CHECKS.due("4: three", x.waiting(), 3);
        x.put(5, 8);
        CHECKS.due("4: eleven", x.waiting(), 11);
        x.reset();
        CHECKS.due("4: after reset", x.waiting(), 0);
        CHECKS.due("4: when off", cutOff().waiting(), 0);
    }

    private static void promise5LengthAnd6Response() {
        Terminal t = Terminal.loggedIn(3);
        t.update(0, Terminal.row(200, 16));
        t.read(0, 16);
        CHECKS.due("5: all data", t.card.length(), 16);
        CHECKS.due("6: first", t.card.response(0), 200);
        CHECKS.due("6: last", t.card.response(15), 215);
        int[] wrong = {-1, 16, 17, 255, 256, Integer.MIN_VALUE, Integer.MAX_VALUE};
        for (int i : wrong) {
            CHECKS.due("6: response " + i, t.card.response(i), NONE);
        }
        t.read(15, 1);
        CHECKS.due("5: one", t.card.length(), 1);
        CHECKS.due("6: the only one", t.card.response(0), 215);
        CHECKS.due("6: no second", t.card.response(1), NONE);
        t.card.put(1, 1);
        CHECKS.due("5: put leaves it", t.card.length(), 1);
        t.card.reset();
        CHECKS.due("5: after reset", t.card.length(), 0);
        CHECKS.due("6: after reset", t.card.response(0), NONE);
        CHECKS.due("5: when off", cutOff().length(), 0);
        CHECKS.due("6: when off", cutOff().response(0), NONE);
    }

    private static void promise7Tear() {
        Terminal t = Terminal.loggedIn(0);
        CHECKS.due("7: tear 3", t.card.tear(3), true);
        t.verify(0, 0);
        CHECKS.due("7: two writes pass", t.card.session(), 8);
        CHECKS.due("7: the fourth fails", t.verify(0, 0), OFF);
        CHECKS.due("7: three were done", t.card.writes(), 5);
        t.card.reset();
        CHECKS.due("7: nothing is armed then", t.logIn(0), DONE);
        t.card.tear(0);
        t.card.tear(2);
        CHECKS.due("7: the latest counts", t.verify(0, 0), DONE);
        CHECKS.due("7: reset leaves it armed", t.card.reset(), 0);
        t.select(0);
        CHECKS.due("7: armed still", t.verify(0, 0), OFF);
        CHECKS.due("7: tear when off", t.card.tear(0), true);
        CHECKS.due("7: tear when off does not switch on", t.card.session(), OFF);
        t.card.reset();
        t.select(0);
        CHECKS.due("7: that counts", t.verify(0, 0), OFF);
        CHECKS.due("7: three failures", t.card.failures(), 3);
    }

    private static void promise7TearRefuses() {
        Terminal t = Terminal.loggedIn(0);
        int[] wrong = {-1, 1001, Integer.MIN_VALUE, Integer.MAX_VALUE};
        for (int n : wrong) {
            CHECKS.due("7: tear " + n, t.card.tear(n), false);
        }
        CHECKS.due("7: nothing is armed by these", t.verify(0, 0), DONE);
        t.card.tear(1);
        for (int n : wrong) {
            CHECKS.due("7: tear " + n + " when armed", t.card.tear(n), false);
        }
        CHECKS.due("7: these leave it armed", t.verify(0, 0), OFF);
        CHECKS.due("7: by the same number", t.card.writes(), 5);
    }

    private static void promise7LongestFuse() {
        Terminal t = Terminal.loggedIn(0);
        CHECKS.due("7: tear 1000", t.card.tear(1000), true);
        for (int i = 0; i < 15; i++) {
            CHECKS.due("7: update " + i, t.update(0, Terminal.row(i, 16)), DONE);
        }
        CHECKS.due("7: 975 of the 1000", t.card.writes(), 977);
        CHECKS.due("7: the fuse ends", t.update(0, Terminal.row(0, 16)), OFF);
        CHECKS.due("7: 1000 writes", t.card.writes(), 1002);
    }

    private static void promise7FortyFailures() {
        Terminal t = Terminal.loggedIn(0);
        t.begin();
        t.update(0, 1);
        for (int i = 0; i < 40; i++) {
            CHECKS.due("7: tear before failure " + (i + 1), t.card.tear(0), true);
            CHECKS.due("7: failure " + (i + 1), t.card.reset(), OFF);
        }
        CHECKS.due("7: forty failures", t.card.failures(), 40);
        CHECKS.due("7: tear after forty", t.card.tear(0), false);
        CHECKS.due("7: tear 1000 after forty", t.card.tear(1000), false);
        CHECKS.due("7: the power holds now", t.card.reset(), 1);
        CHECKS.due("7: tear when on again", t.card.tear(5), false);
    }

    private static void promise8Reset() {
        Terminal t = Terminal.loggedIn(1);
        t.update(3, 7, 8);
        t.begin();
        t.update(4, 90, 91, 92);
        t.update(3, 80);
        t.card.put(1, 5);
        int before = t.card.writes();
        CHECKS.due("8: four notes", t.card.reset(), 4);
        CHECKS.due("8: four bytes and COUNT", t.card.writes(), before + 5);
        CHECKS.due("8: undone", t.dataText(1), "[0, 0, 0, 7, 8, 0, 0, 0, 0, 0, 0, 0, 0, 0, 0, 0]");
        CHECKS.due("8: the session is gone", t.card.session(), NONE);
        CHECKS.due("8: the input is gone", t.card.waiting(), 0);
        CHECKS.due("8: nothing is pending", t.card.pending(), 0);
        CHECKS.due("8: nothing more", t.card.reset(), 0);
        CHECKS.due("8: no write then", t.card.writes(), before + 5);
        t.logIn(1);
        CHECKS.due("8: no transaction is open", t.commit(), 27013);
        AppletFirewall off = cutOff();
        CHECKS.due("8: reset when off", off.reset(), 0);
        CHECKS.due("8: on again", off.session(), NONE);
    }

    private static void promise8ResetCutOff() {
        for (int n = 0; n <= 5; n++) {
            Terminal t = Terminal.loggedIn(0);
            t.begin();
            t.update(0, 1, 2, 3, 4);
            t.update(0, 9);
            t.card.tear(n);
            CHECKS.due("8: reset cut off at " + n, t.card.reset(), OFF);
            CHECKS.due("8: off", t.card.session(), OFF);
            CHECKS.due("8: begins anew", t.card.reset(), 5);
            CHECKS.due("8: all is back", t.dataText(0), new Terminal().dataText(0));
            CHECKS.due("8: writes", t.card.writes(), 2 + 20 + n + 6);
        }
    }

    private static void promise9Writes() {
        Terminal t = new Terminal();
        t.select(0);
        CHECKS.due("9: select", t.card.writes(), 0);
        t.verify(9, 9);
        CHECKS.due("9: wrong secret", t.card.writes(), 1);
        t.verify(0, 0);
        CHECKS.due("9: right secret", t.card.writes(), 3);
        t.update(0, 0, 0, 0);
        CHECKS.due("9: the same bytes count too", t.card.writes(), 16);
        t.begin();
        t.commit();
        CHECKS.due("9: nothing to settle", t.card.writes(), 16);
        t.begin();
        t.abort();
        CHECKS.due("9: nothing to undo", t.card.writes(), 16);
        t.begin();
        t.update(0, 1, 2);
        CHECKS.due("9: not settled", t.card.writes(), 24);
        t.commit();
        CHECKS.due("9: settled", t.card.writes(), 25);
        t.changeSecret(1, 2);
        CHECKS.due("9: secret", t.card.writes(), 34);
        t.grant(0, 1, 0, 1, 0);
        CHECKS.due("9: grant", t.card.writes(), 51);
        t.revoke(0);
        CHECKS.due("9: revoke", t.card.writes(), 56);
        t.unblock(0);
        CHECKS.due("9: unblock", t.card.writes(), 57);
        t.card.tear(2);
        t.update(0, 1);
        CHECKS.due("9: the failed one does not count", t.card.writes(), 59);
    }

    private static void promise10Failures() {
        Terminal t = Terminal.loggedIn(0);
        CHECKS.due("10: none", t.card.failures(), 0);
        t.card.tear(0);
        CHECKS.due("10: armed only", t.card.failures(), 0);
        t.verify(0, 0);
        CHECKS.due("10: one, when off", t.card.failures(), 1);
        t.card.run();
        CHECKS.due("10: run when off is none", t.card.failures(), 1);
        t.card.reset();
        CHECKS.due("10: one, when on", t.card.failures(), 1);
    }

    private static void promise11Data() {
        Terminal t = Terminal.loggedIn(2);
        t.update(0, 255);
        t.update(15, 128);
        CHECKS.due("11: first", t.card.data(2, 0), 255);
        CHECKS.due("11: last", t.card.data(2, 15), 128);
        CHECKS.due("11: another applet's", t.card.data(1, 15), 0);
        CHECKS.due("11: another applet's", t.card.data(3, 0), 0);
        t.begin();
        t.update(0, 4);
        CHECKS.due("11: as it is now", t.card.data(2, 0), 4);
        t.abort();
        CHECKS.due("11: as it was", t.card.data(2, 0), 255);
        dueOutside(t.card);
        AppletFirewall off = cutOff();
        CHECKS.due("11: when off", off.data(0, 0), OFF);
        CHECKS.due("11: when off", off.data(3, 15), OFF);
        dueOutside(off);
    }

    private static void dueOutside(AppletFirewall x) {
        int[][] wrong = {{-1, 0}, {4, 0}, {0, -1}, {0, 16}, {3, 16}, {-1, 16}, {4, -16},
            {Integer.MAX_VALUE, 0}, {Integer.MIN_VALUE, 0}, {0, Integer.MAX_VALUE}, {0, Integer.MIN_VALUE}};
        for (int[] w : wrong) {
            CHECKS.due("11: data " + w[0] + ", " + w[1], x.data(w[0], w[1]), NONE);
        }
    }

    private static void promise12Tries() {
        Terminal t = new Terminal();
        t.select(3);
        t.verify(1, 1);
        CHECKS.due("12: one less", t.card.tries(3), 2);
        CHECKS.due("12: another applet's", t.card.tries(2), 3);
        AppletFirewall off = cutOff();
        CHECKS.due("12: when off", off.tries(0), OFF);
        CHECKS.due("12: when off", off.tries(3), OFF);
        int[] wrong = {-1, 4, Integer.MIN_VALUE, Integer.MAX_VALUE};
        for (int w : wrong) {
            CHECKS.due("12: tries " + w, t.card.tries(w), NONE);
            CHECKS.due("12: tries when off " + w, off.tries(w), NONE);
        }
    }

    private static void promise13Share() {
        Terminal t = Terminal.loggedIn(3);
        t.grant(7, 2, 15, 1, 1);
        CHECKS.due("13: the last one", t.card.share(7), 15 + 256 * 15 + 65536 + 16777216);
        t.grant(0, 0, 0, 16, 0);
        CHECKS.due("13: the first one", t.card.share(0), 13 + 65536 * 16);
        CHECKS.due("13: one between", t.card.share(3), 0);
        t.revoke(7);
        CHECKS.due("13: revoked", t.card.share(7), 256 * 15 + 65536 + 16777216);
        t.begin();
        t.revoke(0);
        CHECKS.due("13: as it is now", t.card.share(0), 65536 * 16);
        t.abort();
        CHECKS.due("13: as it was", t.card.share(0), 13 + 65536 * 16);
        AppletFirewall off = cutOff();
        CHECKS.due("13: when off", off.share(0), OFF);
        CHECKS.due("13: when off", off.share(7), OFF);
        int[] wrong = {-1, 8, Integer.MIN_VALUE, Integer.MAX_VALUE};
        for (int w : wrong) {
            CHECKS.due("13: share " + w, t.card.share(w), NONE);
            CHECKS.due("13: share when off " + w, off.share(w), NONE);
        }
    }

    private static void promise14Pending() {
        Terminal t = Terminal.loggedIn(0);
        t.update(0, 1, 2, 3);
        CHECKS.due("14: settled at once", t.card.pending(), 0);
        t.begin();
        CHECKS.due("14: begun", t.card.pending(), 0);
        t.update(0, 1, 2, 3);
        CHECKS.due("14: three", t.card.pending(), 3);
        t.changeSecret(5, 5);
        CHECKS.due("14: five", t.card.pending(), 5);
        t.grant(1, 1, 0, 1, 0);
        CHECKS.due("14: nine", t.card.pending(), 9);
        t.revoke(1);
        CHECKS.due("14: ten", t.card.pending(), 10);
        t.verify(5, 5);
        t.unblock(1);
        CHECKS.due("14: tries take no note", t.card.pending(), 10);
        t.commit();
        CHECKS.due("14: ended", t.card.pending(), 0);
        CHECKS.due("14: when off", cutOff().pending(), OFF);
    }

    private static void promise15Session() {
        Terminal t = new Terminal();
        CHECKS.due("15: none selected", t.card.session(), NONE);
        for (int applet = 0; applet < 4; applet++) {
            t.select(applet);
            CHECKS.due("15: selected", t.card.session(), applet);
            t.begin();
            CHECKS.due("15: open, not verified", t.card.session(), applet + 16);
            t.verify(0, 0);
            CHECKS.due("15: open and verified", t.card.session(), applet + 24);
            t.commit();
            CHECKS.due("15: verified", t.card.session(), applet + 8);
            t.verify(0, 1);
            CHECKS.due("15: verified no more", t.card.session(), applet);
        }
        CHECKS.due("15: when off", cutOff().session(), OFF);
    }

    /** A card whose power failed, with nothing to undo. */
    private static AppletFirewall cutOff() {
        Terminal t = Terminal.loggedIn(0);
        t.read(0, 3);
        t.card.tear(0);
        t.verify(0, 0);
        return t.card;
    }
}
