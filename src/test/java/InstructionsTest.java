/** 'Terms' from SELECT to UPDATE SHARED: what is said at each instruction, sentence by sentence. */
final class InstructionsTest {
    private static final int OFF = AppletFirewall.OFF;
    private static final int NONE = AppletFirewall.NONE;
    private static final int DONE = Terminal.DONE;
    private static final String NO_DATA = new Terminal().dataText(0);
    private static final Checks CHECKS = new Checks();

    public static void main(String[] args) {
        select();
        verify();
        changeSecret();
        unblock();
        read();
        update();
        begin();
        end();
        grant();
        revoke();
        readShared();
        updateShared();
        CHECKS.end();
    }

    private static void select() {
        selectNoApplet();
        selectUndoesTransaction();
        selectForgetsVerified();
        selectRespondsTries();
    }

    private static void selectNoApplet() {
        CHECKS.sentence("SELECT: the byte is an applet, 27266 if it is not 0 .. 3");
        for (int applet = 0; applet < 256; applet++) {
            Terminal t = new Terminal();
            CHECKS.due("select " + applet, t.select(applet), applet < 4 ? DONE : 27266);
            CHECKS.due("session", t.card.session(), applet < 4 ? applet : NONE);
        }
        CHECKS.refused("select 4 in a transaction", Terminal.withNotes(2), t -> t.select(4), 27266);
        CHECKS.refused("select 255 in a transaction", Terminal.withNotes(2), t -> t.select(255), 27266);
    }

    private static void selectUndoesTransaction() {
        CHECKS.sentence("SELECT: If a transaction is open, it is undone and is open no more");
        for (int applet = 0; applet < 4; applet++) {
            Terminal t = Terminal.withNotes(20);
            int before = t.card.writes();
            CHECKS.due("select " + applet, t.select(applet), DONE);
            CHECKS.due("twenty bytes and COUNT", t.card.writes(), before + 21);
            CHECKS.due("data", t.dataText(0), NO_DATA);
            CHECKS.due("pending", t.card.pending(), 0);
            CHECKS.due("open no more", t.card.session(), applet);
            CHECKS.due("so none can end", t.commit(), 27013);
        }
        Terminal u = Terminal.withNotes(0);
        CHECKS.due("select without notes", u.select(0), DONE);
        CHECKS.due("open no more", u.card.session(), 0);
        CHECKS.due("one can begin", u.begin(), DONE);
        Terminal v = Terminal.loggedIn(0);
        v.update(0, 1);
        v.select(1);
        CHECKS.due("what was not in a transaction stays", v.card.data(0, 0), 1);
    }

    private static void selectForgetsVerified() {
        CHECKS.sentence("SELECT: The applet is selected then and not verified");
        Terminal t = Terminal.loggedIn(1);
        CHECKS.due("the same", t.select(1), DONE);
        CHECKS.due("verified no more", t.card.session(), 1);
        t.verify(0, 0);
        CHECKS.due("another", t.select(3), DONE);
        CHECKS.due("selected", t.card.session(), 3);
        t.select(1);
        CHECKS.due("back again", t.card.session(), 1);
    }

    private static void selectRespondsTries() {
        CHECKS.sentence("SELECT: The response is one byte, its tries");
        Terminal t = new Terminal();
        for (int left = 3; left >= 0; left--) {
            t.select(0);
            CHECKS.due("another's", t.responseText(), "[3]");
            t.select(2);
            CHECKS.due("its own", t.responseText(), "[" + left + "]");
            t.verify(8, 8);
        }
    }

    private static void verify() {
        verifyBlocked();
        verifySpendsATry();
        verifyRight();
        verifyWrong();
        verifyIsNotUndone();
    }

    private static Terminal blocked(int applet) {
        Terminal t = new Terminal();
        t.select(applet);
        t.verify(9, 9);
        t.verify(9, 9);
        t.verify(9, 9);
        return t;
    }

    private static void verifyBlocked() {
        CHECKS.sentence("VERIFY: 27011 if the applet's tries are 0");
        for (int applet = 0; applet < 4; applet++) {
            CHECKS.refused("the right secret", blocked(applet), t -> t.verify(0, 0), 27011);
            CHECKS.refused("a wrong secret", blocked(applet), t -> t.verify(9, 9), 27011);
        }
        Terminal t = blocked(2);
        t.card.tear(0);
        CHECKS.due("no write that could fail", t.verify(0, 0), 27011);
        t.card.tear(1000);
        t.card.reset();
        t.select(2);
        CHECKS.due("after reset", t.verify(0, 0), 27011);
        CHECKS.due("another applet's tries", t.logIn(3), DONE);
    }

    private static void verifySpendsATry() {
        CHECKS.sentence("VERIFY: Otherwise the tries become one less by a write");
        Terminal t = new Terminal();
        t.select(1);
        for (int left = 2; left >= 0; left--) {
            t.verify(7, 7);
            CHECKS.due("tries", t.card.tries(1), left);
            CHECKS.due("writes", t.card.writes(), 3 - left);
        }
        // The try is spent also if the secret is right, until the second write gives all back.
        Terminal u = new Terminal();
        u.select(1);
        u.verify(7, 7);
        u.card.tear(1);
        CHECKS.due("cut off", u.verify(0, 0), OFF);
        u.card.reset();
        CHECKS.due("spent", u.card.tries(1), 1);
    }

    private static void verifyRight() {
        CHECKS.sentence("VERIFY: if both bytes are its secret, the tries become 3 by a write, and the applet is verified");
        for (int wrong = 0; wrong < 3; wrong++) {
            Terminal t = new Terminal();
            t.select(3);
            for (int i = 0; i < wrong; i++) {
                t.verify(1, 1);
            }
            CHECKS.due("right after " + wrong + " wrong", t.verify(0, 0), DONE);
            CHECKS.due("tries", t.card.tries(3), 3);
            CHECKS.due("writes", t.card.writes(), wrong + 2);
            CHECKS.due("session", t.card.session(), 11);
            CHECKS.due("once more", t.verify(0, 0), DONE);
            CHECKS.due("writes then", t.card.writes(), wrong + 4);
            CHECKS.due("session then", t.card.session(), 11);
        }
    }

    private static void verifyWrong() {
        CHECKS.sentence("VERIFY: if not, it is not verified, and the status is 25536 plus its tries");
        int[][] wrong = {{10, 21}, {11, 20}, {20, 10}, {0, 0}, {10, 0}, {0, 20}, {138, 148}};
        for (int[] w : wrong) {
            Terminal t = Terminal.loggedIn(2);
            t.changeSecret(10, 20);
            for (int left = 2; left >= 0; left--) {
                CHECKS.due("verify " + w[0] + ", " + w[1], t.verify(w[0], w[1]), 25536 + left);
                CHECKS.due("session", t.card.session(), 2);
                CHECKS.due("no read", t.read(0, 1), 27010);
            }
        }
    }

    private static void verifyIsNotUndone() {
        CHECKS.sentence("VERIFY: by a write, so no note is taken of it");
        Terminal t = Terminal.withNotes(1);
        t.verify(7, 7);
        t.verify(7, 7);
        CHECKS.due("pending", t.card.pending(), 1);
        CHECKS.due("abort when not verified", t.abort(), DONE);
        CHECKS.due("tries stay", t.card.tries(0), 1);
        Terminal full = Terminal.withNotes(20);
        CHECKS.due("verify with a full journal", full.verify(0, 0), DONE);
        CHECKS.due("wrong with a full journal", full.verify(0, 1), 25538);
        CHECKS.due("the transaction is open still", full.card.session(), 16);
    }

    private static void changeSecret() {
        CHECKS.sentence("CHANGE SECRET: the bytes are stored as the secret");
        for (int applet = 0; applet < 4; applet++) {
            Terminal t = Terminal.loggedIn(applet);
            CHECKS.due("change", t.changeSecret(200, 255), DONE);
            CHECKS.due("still verified", t.card.session(), applet + 8);
            CHECKS.due("writes", t.card.writes(), 2 + 9);
            CHECKS.due("the old one", t.verify(0, 0), 25538);
            CHECKS.due("in their order", t.verify(255, 200), 25537);
            CHECKS.due("the new one", t.verify(200, 255), DONE);
        }
        Terminal u = Terminal.loggedIn(3);
        u.begin();
        u.changeSecret(1, 2);
        CHECKS.due("in a transaction", u.verify(1, 2), DONE);
        u.abort();
        CHECKS.due("undone", u.verify(1, 2), 25538);
        CHECKS.due("the one before", u.verify(0, 0), DONE);
        CHECKS.due("room for two notes", Terminal.withNotes(18).changeSecret(1, 2), DONE);
        CHECKS.refused("room for one note", Terminal.withNotes(19), t -> t.changeSecret(1, 2), 27268);
    }

    private static void unblock() {
        CHECKS.sentence("UNBLOCK: P1 an applet 0 .. 3");
        CHECKS.due("applet 0", Terminal.loggedIn(0).unblock(0), DONE);
        CHECKS.due("applet 3", Terminal.loggedIn(0).unblock(3), DONE);
        CHECKS.refused("applet 4", Terminal.loggedIn(0), t -> t.unblock(4), 27270);
        CHECKS.refused("applet 4 by another", Terminal.loggedIn(1), t -> t.unblock(4), 27270);

        CHECKS.sentence("UNBLOCK: 27010 if the selected applet is not 0");
        for (int applet = 1; applet < 4; applet++) {
            CHECKS.refused("itself by " + applet, Terminal.loggedIn(applet), t -> t.unblock(t.card.session() - 8), 27010);
            CHECKS.refused("0 by " + applet, Terminal.loggedIn(applet), t -> t.unblock(0), 27010);
        }
        unblockGivesAllTries();
    }

    private static void unblockGivesAllTries() {
        CHECKS.sentence("UNBLOCK: The tries of applet P1 become 3 by a write");
        for (int applet = 1; applet < 4; applet++) {
            Terminal t = blocked(applet);
            t.logIn(0);
            int before = t.card.writes();
            CHECKS.due("another", t.unblock(applet % 3 + 1), DONE);
            CHECKS.due("this one stays", t.card.tries(applet), 0);
            CHECKS.due("this one", t.unblock(applet), DONE);
            CHECKS.due("its tries", t.card.tries(applet), 3);
            CHECKS.due("a write for each", t.card.writes(), before + 2);
            CHECKS.due("the secret is as before", t.logIn(applet), DONE);
        }
        Terminal u = Terminal.withNotes(20);
        CHECKS.due("with a full journal", u.unblock(1), DONE);
        u.card.tear(0);
        CHECKS.due("the write can fail", u.unblock(1), OFF);
        Terminal v = blocked(2);
        v.logIn(0);
        v.begin();
        v.unblock(2);
        v.abort();
        CHECKS.due("it is not undone", v.card.tries(2), 3);
        Terminal w = blocked(2);
        w.logIn(0);
        w.card.tear(0);
        w.unblock(2);
        w.card.reset();
        CHECKS.due("tries after the failure", w.card.tries(2), 0);
    }

    private static void read() {
        CHECKS.sentence("READ: 27392 if P2 + Le is more than 16");
        int[] les = {1, 2, 15, 16, 17, 128, 240, 254, 255, 0};
        for (int offset = 0; offset < 256; offset++) {
            for (int le : les) {
                boolean fits = le > 0 && offset + le <= 16;
                int status = Terminal.loggedIn(0).read(offset, le);
                CHECKS.due("read " + le + " at " + offset, status, fits ? DONE : 27392);
            }
        }
        CHECKS.refused("one too many", Terminal.withNotes(2), t -> t.read(15, 2), 27392);

        CHECKS.sentence("READ: The response is the data P2 .. P2 + Le - 1 of the selected applet");
        Terminal t = Terminal.loggedIn(1);
        t.update(0, Terminal.row(100, 16));
        int before = t.card.writes();
        t.read(0, 16);
        CHECKS.due("all", t.responseText(), t.dataText(1));
        t.read(5, 3);
        CHECKS.due("three", t.responseText(), "[105, 106, 107]");
        t.read(0, 1);
        CHECKS.due("the first", t.responseText(), "[100]");
        t.read(15, 1);
        CHECKS.due("the last", t.responseText(), "[115]");
        CHECKS.due("no write", t.card.writes(), before);
        t.logIn(2);
        t.read(0, 2);
        CHECKS.due("another's", t.responseText(), "[0, 0]");
    }

    private static void update() {
        CHECKS.sentence("UPDATE: 27392 if P2 + Lc is more than 16");
        for (int offset = 0; offset < 256; offset++) {
            for (int lc = 1; lc <= 19; lc += 3) {
                int status = Terminal.loggedIn(0).update(offset, Terminal.row(1, lc));
                CHECKS.due("update of " + lc + " at " + offset, status, offset + lc <= 16 ? DONE : 27392);
            }
        }
        for (int lc = 1; lc <= 16; lc++) {
            int n = lc;
            CHECKS.due("to the end", Terminal.loggedIn(0).update(16 - n, Terminal.row(1, n)), DONE);
            CHECKS.refused("beyond the end", Terminal.loggedIn(0), t -> t.update(17 - n, Terminal.row(1, n)), 27392);
        }
        CHECKS.refused("17 bytes", Terminal.loggedIn(0), t -> t.update(0, Terminal.row(1, 17)), 27392);
        CHECKS.refused("with a full journal", Terminal.withNotes(20), t -> t.update(16, 1), 27392);

        CHECKS.sentence("UPDATE: The bytes are stored as its data from P2 on");
        Terminal t = Terminal.loggedIn(2);
        t.update(0, Terminal.row(50, 16));
        t.update(15, 255);
        t.update(3, 1, 2);
        CHECKS.due("data", t.dataText(2), "[50, 51, 52, 1, 2, 55, 56, 57, 58, 59, 60, 61, 62, 63, 64, 255]");
        CHECKS.due("data of the one before", t.dataText(1), NO_DATA);
        CHECKS.due("data of the one behind", t.dataText(3), NO_DATA);
    }

    private static void begin() {
        CHECKS.sentence("BEGIN: 27013 if a transaction is open");
        CHECKS.refused("begin again", Terminal.withNotes(0), t -> t.begin(), 27013);
        CHECKS.refused("begin again with notes", Terminal.withNotes(20), t -> t.begin(), 27013);

        CHECKS.sentence("BEGIN: One is open then");
        Terminal t = new Terminal();
        t.select(2);
        CHECKS.due("begin", t.begin(), DONE);
        CHECKS.due("session", t.card.session(), 18);
        CHECKS.due("no write", t.card.writes(), 0);
        t.commit();
        CHECKS.due("begin after the end", t.begin(), DONE);
    }

    private static void end() {
        CHECKS.sentence("END: P1 0 or 1");
        CHECKS.refused("P1 2", Terminal.withNotes(2), t -> t.send(128, 114, 2, 0), 27270);
        CHECKS.refused("P1 255", Terminal.withNotes(2), t -> t.send(128, 114, 255, 0), 27270);

        CHECKS.sentence("END: 27013 if none is open");
        CHECKS.refused("settle", Terminal.loggedIn(0), t -> t.commit(), 27013);
        CHECKS.refused("undo", Terminal.loggedIn(0), t -> t.abort(), 27013);
        endSettles();
        endUndoes();
        endedTransaction();
    }

    private static void endSettles() {
        CHECKS.sentence("END: With P1 = 0 the journal is settled");
        Terminal t = Terminal.loggedIn(0);
        t.begin();
        t.update(7, 9, 10);
        CHECKS.due("commit", t.commit(), DONE);
        CHECKS.due("pending", t.card.pending(), 0);
        CHECKS.due("nothing to undo", t.card.reset(), 0);
        CHECKS.due("the bytes stay", t.dataText(0), "[0, 0, 0, 0, 0, 0, 0, 9, 10, 0, 0, 0, 0, 0, 0, 0]");
        Terminal u = Terminal.withNotes(3);
        u.card.tear(0);
        CHECKS.due("commit cut off", u.commit(), OFF);
        CHECKS.due("all is undone", u.card.reset(), 3);
        CHECKS.due("data", u.dataText(0), NO_DATA);
    }

    private static void endUndoes() {
        CHECKS.sentence("END: with P1 = 1 it is undone");
        Terminal t = Terminal.loggedIn(0);
        t.update(0, 31, 32);
        t.begin();
        t.update(0, 1, 2);
        t.update(1, 3, 4);
        t.update(1, 5);
        t.read(0, 3);
        CHECKS.due("before", t.responseText(), "[1, 5, 4]");
        CHECKS.due("abort", t.abort(), DONE);
        CHECKS.due("data", t.dataText(0), "[31, 32, 0, 0, 0, 0, 0, 0, 0, 0, 0, 0, 0, 0, 0, 0]");
        CHECKS.due("writes", t.card.writes(), 2 + 9 + 20 + 6);
    }

    private static void endedTransaction() {
        CHECKS.sentence("END: then none is open");
        Command[] ends = {t -> t.commit(), t -> t.abort()};
        for (int i = 0; i < ends.length; i++) {
            for (int notes = 0; notes <= 20; notes += 10) {
                Terminal t = Terminal.withNotes(notes);
                CHECKS.due("end " + i, ends[i].sendTo(t), DONE);
                CHECKS.due("session", t.card.session(), 8);
                CHECKS.due("end again", ends[i].sendTo(t), 27013);
                CHECKS.due("what is stored then", t.update(0, 1), DONE);
                CHECKS.due("is settled", t.card.pending(), 0);
            }
        }
    }

    private static void grant() {
        grantToWhom();
        grantWhatRange();
        grantWhatMode();
        grantInUse();
        grantStores();
    }

    private static void grantToWhom() {
        CHECKS.sentence("GRANT: 27264 if client is not 0 .. 3 or is the selected applet");
        for (int owner = 0; owner < 4; owner++) {
            for (int client = 0; client < 256; client++) {
                boolean may = client < 4 && client != owner;
                int status = Terminal.loggedIn(owner).grant(0, client, 0, 1, 0);
                CHECKS.due("grant by " + owner + " to " + client, status, may ? DONE : 27264);
            }
        }
        CHECKS.refused("to 4", Terminal.withNotes(1), t -> t.grant(0, 4, 0, 1, 0), 27264);
        CHECKS.refused("to itself", Terminal.withNotes(1), t -> t.grant(0, 0, 0, 1, 0), 27264);
    }

    private static void grantWhatRange() {
        CHECKS.sentence("GRANT: 27264 if length is 0, offset + length is more than 16");
        int[] some = {0, 1, 2, 8, 14, 15, 16, 17, 127, 128, 240, 241, 254, 255};
        for (int offset : some) {
            for (int length : some) {
                boolean may = length > 0 && offset + length <= 16;
                Terminal t = Terminal.loggedIn(1);
                String what = "grant of " + length + " at " + offset;
                CHECKS.due(what, t.grant(7, 2, offset, length, 1), may ? DONE : 27264);
                int due = may ? 7 + 256 * offset + 65536 * length + 16777216 : 0;
                CHECKS.due(what + ": share", t.card.share(7), due);
            }
        }
        CHECKS.refused("length 0", Terminal.withNotes(1), t -> t.grant(0, 1, 0, 0, 0), 27264);
        CHECKS.refused("length 0 at 16", Terminal.withNotes(1), t -> t.grant(0, 1, 16, 0, 0), 27264);
        CHECKS.refused("beyond 16", Terminal.withNotes(1), t -> t.grant(0, 1, 1, 16, 0), 27264);
    }

    private static void grantWhatMode() {
        CHECKS.sentence("GRANT: 27264 if mode is not 0 or 1");
        for (int mode = 0; mode < 256; mode++) {
            int status = Terminal.loggedIn(1).grant(0, 0, 0, 16, mode);
            CHECKS.due("mode " + mode, status, mode < 2 ? DONE : 27264);
        }
        CHECKS.refused("mode 2", Terminal.withNotes(1), t -> t.grant(0, 1, 0, 1, 2), 27264);
    }

    private static void grantInUse() {
        CHECKS.sentence("GRANT: 27273 if the share is in use");
        for (int share = 0; share < 8; share++) {
            Terminal t = Terminal.loggedIn(1);
            t.grant(share, 0, 0, 16, 1);
            int taken = share;
            CHECKS.refused("by its owner", t, x -> x.grant(taken, 3, 0, 16, 1), 27273);
            t.logIn(2);
            CHECKS.refused("by another", t, x -> x.grant(taken, 3, 0, 16, 1), 27273);
            CHECKS.due("the next one is free", t.grant((share + 1) % 8, 3, 0, 16, 1), DONE);
        }
        Terminal u = Terminal.loggedIn(1);
        u.grant(0, 0, 0, 16, 1);
        CHECKS.refused("27264 goes before", u, x -> x.grant(0, 1, 0, 16, 1), 27264);
        u.begin();
        u.addNotes(20);
        CHECKS.due("27273 goes before 27268", u.grant(0, 0, 0, 16, 1), 27273);
        CHECKS.due("27264 goes before 27268", u.grant(1, 4, 0, 16, 1), 27264);
        CHECKS.due("27268", u.grant(1, 0, 0, 16, 1), 27268);
    }

    private static void grantStores() {
        CHECKS.sentence("GRANT: The share's four bytes, with the selected applet as owner, are stored in their order");
        for (int n = 0; n <= 17; n++) {
            Terminal t = Terminal.loggedIn(2);
            t.card.tear(n);
            CHECKS.due("grant cut off at " + n, t.grant(5, 3, 4, 6, 1), n < 17 ? OFF : DONE);
            CHECKS.due("notes", t.card.reset(), n < 17 ? (n + 1) / 4 : 0);
            CHECKS.due("share", t.card.share(5), n < 17 ? 0 : 12 + 256 * 4 + 65536 * 6 + 16777216);
        }
        Terminal u = Terminal.loggedIn(2);
        u.grant(5, 3, 4, 6, 1);
        u.revoke(5);
        u.begin();
        CHECKS.due("over what is left of another", u.grant(5, 0, 1, 2, 0), DONE);
        CHECKS.due("share", u.card.share(5), 9 + 256 + 65536 * 2);
        CHECKS.due("in use at once", u.grant(5, 0, 1, 2, 0), 27273);
        u.abort();
        CHECKS.due("undone", u.card.share(5), 256 * 4 + 65536 * 6 + 16777216);
        CHECKS.due("four notes fit", Terminal.withNotes(16).grant(0, 1, 0, 1, 0), DONE);
        CHECKS.refused("four notes do not fit", Terminal.withNotes(17), t -> t.grant(0, 1, 0, 1, 0), 27268);
    }

    private static void revoke() {
        CHECKS.sentence("REVOKE: 27272 if the share is not in use");
        for (int applet = 0; applet < 4; applet++) {
            for (int share = 0; share < 8; share++) {
                CHECKS.due("share " + share + " by " + applet, Terminal.loggedIn(applet).revoke(share), 27272);
            }
        }
        CHECKS.refused("with a full journal", Terminal.withNotes(20), t -> t.revoke(0), 27272);

        CHECKS.sentence("REVOKE: 27272 if its owner is not the selected applet");
        for (int applet = 0; applet < 4; applet++) {
            Terminal t = Terminal.loggedIn(2);
            t.grant(6, 3, 1, 2, 1);
            t.logIn(applet);
            if (applet != 2) {
                CHECKS.refused("by " + applet, t, x -> x.revoke(6), 27272);
            } else {
                CHECKS.due("by the owner", t.revoke(6), DONE);
                CHECKS.refused("again", t, x -> x.revoke(6), 27272);
            }
        }
        revokeStores();
    }

    private static void revokeStores() {
        CHECKS.sentence("REVOKE: 0 is stored as its first byte");
        Terminal t = Terminal.loggedIn(2);
        t.grant(5, 1, 1, 1, 1);
        t.grant(6, 3, 1, 2, 1);
        t.grant(7, 1, 1, 1, 1);
        int before = t.card.writes();
        t.revoke(6);
        CHECKS.due("five writes", t.card.writes(), before + 5);
        CHECKS.due("the rest stays", t.card.share(6), 256 + 65536 * 2 + 16777216);
        CHECKS.due("the one before", t.card.share(5), 10 + 256 + 65536 + 16777216);
        CHECKS.due("the one behind", t.card.share(7), 10 + 256 + 65536 + 16777216);
        t.begin();
        t.revoke(7);
        CHECKS.due("free in the transaction", t.grant(7, 0, 0, 1, 0), DONE);
        CHECKS.due("five notes", t.card.pending(), 5);
        t.abort();
        CHECKS.due("undone", t.card.share(7), 10 + 256 + 65536 + 16777216);
    }

    /** Applet 3 has data and has granted shares 1 (data 10 .. 15, to read) and 6 (data 2 .. 4, to change) to 1. */
    private static Terminal withShares(int applet) {
        Terminal t = Terminal.loggedIn(3);
        t.update(0, Terminal.row(30, 16));
        t.grant(1, 1, 10, 6, 0);
        t.grant(6, 1, 2, 3, 1);
        t.logIn(applet);
        return t;
    }

    private static void dueNoShare(String what, Command use) {
        for (int applet = 0; applet < 4; applet++) {
            if (applet != 1) {
                CHECKS.refused(what + " by " + applet, withShares(applet), use, 27272);
            }
        }
    }

    private static void readShared() {
        CHECKS.sentence("READ SHARED: 27272 if the share is not in use or its client is not the selected applet");
        for (int share = 0; share < 8; share++) {
            boolean granted = share == 1 || share == 6;
            CHECKS.due("share " + share, withShares(1).readShared(share, 0, 1), granted ? DONE : 27272);
        }
        dueNoShare("read", t -> t.readShared(1, 0, 1));
        CHECKS.refused("27272 goes before 27392", withShares(1), t -> t.readShared(0, 255, 0), 27272);
        Terminal t = withShares(3);
        t.revoke(1);
        t.logIn(1);
        CHECKS.refused("revoked", t, x -> x.readShared(1, 0, 1), 27272);

        CHECKS.sentence("READ SHARED: 27392 if P2 + Le is more than its length");
        int[] les = {1, 2, 3, 4, 6, 7, 16, 254, 255, 0};
        for (int offset = 0; offset < 256; offset++) {
            for (int le : les) {
                boolean fits = le > 0 && offset + le <= 3;
                CHECKS.due("read " + le + " at " + offset, withShares(1).readShared(6, offset, le), fits ? DONE : 27392);
            }
        }
        CHECKS.refused("one too many", withShares(1), x -> x.readShared(6, 2, 2), 27392);
        readSharedResponds();
    }

    private static void readSharedResponds() {
        CHECKS.sentence("READ SHARED: The response is the owner's data from the share's offset + P2 on, Le bytes");
        Terminal t = withShares(1);
        int before = t.card.writes();
        t.readShared(1, 0, 6);
        CHECKS.due("all", t.responseText(), "[40, 41, 42, 43, 44, 45]");
        t.readShared(1, 5, 1);
        CHECKS.due("the last", t.responseText(), "[45]");
        t.readShared(6, 1, 2);
        CHECKS.due("two", t.responseText(), "[33, 34]");
        CHECKS.due("no write", t.card.writes(), before);
        t.updateShared(6, 1, 99);
        t.readShared(6, 0, 3);
        CHECKS.due("as they are now", t.responseText(), "[32, 99, 34]");
        Terminal u = Terminal.loggedIn(3);
        u.update(0, Terminal.row(240, 16));
        u.grant(0, 1, 0, 16, 0);
        u.logIn(1);
        u.readShared(0, 0, 16);
        CHECKS.due("sixteen", u.responseText(), u.dataText(3));
    }

    private static void updateShared() {
        CHECKS.sentence("UPDATE SHARED: 27272 likewise");
        for (int share = 0; share < 8; share++) {
            int due = share == 6 ? DONE : share == 1 ? 27010 : 27272;
            CHECKS.due("share " + share, withShares(1).updateShared(share, 0, 1), due);
        }
        dueNoShare("update", t -> t.updateShared(6, 0, 1));
        CHECKS.refused("27272 goes before 27010", withShares(2), t -> t.updateShared(1, 255, 1), 27272);

        CHECKS.sentence("UPDATE SHARED: 27010 if its mode is 0");
        CHECKS.refused("mode 0", withShares(1), t -> t.updateShared(1, 0, 1), 27010);
        CHECKS.refused("27010 goes before 27392", withShares(1), t -> t.updateShared(1, 6, 1), 27010);

        CHECKS.sentence("UPDATE SHARED: 27392 if P2 + Lc is more than its length");
        for (int offset = 0; offset < 256; offset++) {
            for (int lc = 1; lc <= 4; lc++) {
                int status = withShares(1).updateShared(6, offset, Terminal.row(1, lc));
                CHECKS.due("update of " + lc + " at " + offset, status, offset + lc <= 3 ? DONE : 27392);
            }
        }
        CHECKS.refused("one too many", withShares(1), t -> t.updateShared(6, 1, 7, 8, 9), 27392);
        CHECKS.refused("19 bytes", withShares(1), t -> t.updateShared(6, 0, Terminal.row(1, 19)), 27392);
        Terminal full = withShares(1);
        full.begin();
        full.addNotes(20);
        CHECKS.due("27392 goes before 27268", full.updateShared(6, 3, 1), 27392);
        CHECKS.due("27010 goes before 27268", full.updateShared(1, 0, 1), 27010);
        CHECKS.due("27272 goes before 27268", full.updateShared(0, 0, 1), 27272);
        CHECKS.due("27268", full.updateShared(6, 2, 1), 27268);
        updateSharedStores();
    }

    private static void updateSharedStores() {
        CHECKS.sentence("UPDATE SHARED: The bytes are stored as the owner's data from the share's offset + P2 on");
        Terminal t = withShares(1);
        int before = t.card.writes();
        CHECKS.due("all of it", t.updateShared(6, 0, 201, 202, 203), DONE);
        CHECKS.due("13 writes", t.card.writes(), before + 13);
        CHECKS.due("its last byte", t.updateShared(6, 2, 204), DONE);
        CHECKS.due("the owner's data", t.dataText(3),
            "[30, 31, 201, 202, 204, 35, 36, 37, 38, 39, 40, 41, 42, 43, 44, 45]");
        CHECKS.due("the client's data", t.dataText(1), NO_DATA);
        t.begin();
        t.updateShared(6, 0, 9, 9);
        CHECKS.due("noted", t.card.pending(), 2);
        t.abort();
        CHECKS.due("undone", t.card.data(3, 2), 201);
        CHECKS.due("undone", t.card.data(3, 3), 202);
    }
}
