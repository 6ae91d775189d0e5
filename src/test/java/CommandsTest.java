/** What the commands do, their statuses, and the order of these (the terms, and promise 3). */
final class CommandsTest {
    private static final int OFF = AppletFirewall.OFF;
    private static final int NONE = AppletFirewall.NONE;
    private static final int DONE = Terminal.DONE;
    private static final Checks CHECKS = new Checks();

    /** Instruction, shape, Lc, highest P1, highest P2, 1 if marked: as the document tells them. */
    private static final int[][] INSTRUCTIONS = {
        {164, 3, 1, 0, 0, 0}, {32, 3, 2, 0, 0, 0}, {36, 3, 2, 0, 0, 1}, {44, 1, 0, 3, 0, 1},
        {176, 2, 0, 0, 255, 1}, {214, 3, 0, 0, 255, 1}, {112, 1, 0, 0, 0, 0}, {114, 1, 0, 1, 0, 0},
        {226, 3, 4, 7, 0, 1}, {228, 1, 0, 7, 0, 1}, {178, 2, 0, 7, 255, 1}, {220, 3, 0, 7, 255, 1}};

    public static void main(String[] args) {
        badlyFormed();
        wrongClass();
        noSuchInstruction();
        wrongShape();
        wrongParameters();
        nothingSelected();
        notVerified();
        select();
        selectEndsTransaction();
        verify();
        changeSecret();
        unblock();
        read();
        update();
        transactions();
        fullJournal();
        grant();
        revoke();
        readShared();
        updateShared();
        triesOutliveTransactions();
        CHECKS.end();
    }

    private static void badlyFormed() {
        Terminal t = new Terminal();
        int[][] inputs = {{}, {128}, {128, 164}, {128, 164, 0}, {128, 164, 0, 0, 0, 1}, {128, 164, 0, 0, 0, 0},
            {128, 164, 0, 0, 2, 1}, {128, 164, 0, 0, 1, 1, 1, 1}, {128, 164, 0, 0, 255, 1}, {0, 0, 0},
            {0, 164, 0, 0, 3, 1}, {0, 164, 0, 0, 0, 1}, {128, 1, 0, 0, 3, 1}, {128, 1, 0, 0, 0, 1}};
        for (int[] input : inputs) {
            CHECKS.due("badly formed, " + input.length + " bytes", t.send(input), 26368);
        }
        CHECKS.due("badly formed: nothing is selected", t.card.session(), NONE);
        int[] longest = new int[24];
        longest[0] = 128;
        longest[1] = 214;
        longest[4] = 19;
        t.logIn(0);
        CHECKS.due("Lc 19 is the longest", t.send(longest), 27392);
        longest[4] = 20;
        CHECKS.due("Lc 20 cannot come", t.send(longest), 26368);
        longest[4] = 18;
        CHECKS.due("Lc 18 and Le", t.send(longest), 26368);
        longest[4] = 17;
        CHECKS.due("Lc 17 and two more", t.send(longest), 26368);
    }

    private static void wrongClass() {
        Terminal t = new Terminal();
        int[] classes = {0, 1, 127, 129, 255};
        for (int wrong : classes) {
            CHECKS.due("class " + wrong, t.send(wrong, 164, 0, 0, 1, 0), 28160);
            CHECKS.due("class before instruction", t.send(wrong, 1, 0, 0), 28160);
            CHECKS.due("class before shape", t.send(wrong, 164, 0, 0), 28160);
            CHECKS.due("class, shape 4", t.send(wrong, 164, 0, 0, 1, 0, 0), 28160);
            CHECKS.due("class before parameters", t.send(wrong, 164, 1, 0, 1, 0), 28160);
        }
    }

    private static void noSuchInstruction() {
        Terminal t = Terminal.loggedIn(0);
        int known = 0;
        for (int code = 0; code < 256; code++) {
            // Shape 4 fits no instruction, so the known ones answer 26368.
            int status = t.send(128, code, 255, 255, 1, 0, 0);
            boolean isKnown = false;
            for (int[] i : INSTRUCTIONS) {
                isKnown |= i[0] == code;
            }
            known += isKnown ? 1 : 0;
            CHECKS.due("instruction " + code, status, isKnown ? 26368 : 27904);
            if (code == 150) {
                t = new Terminal();
            }
        }
        CHECKS.due("known instructions", known, INSTRUCTIONS.length);
    }

    /** A command of the instruction with this shape and Lc; all its other bytes are 0. */
    private static int[] command(int code, int p1, int p2, int shape, int lc) {
        int[] lengths = {0, 4, 5, 5 + lc, 6 + lc};
        int[] bytes = new int[lengths[shape]];
        bytes[0] = 128;
        bytes[1] = code;
        bytes[2] = p1;
        bytes[3] = p2;
        if (shape == 2) {
            bytes[4] = 1;
        } else if (shape > 2) {
            bytes[4] = lc;
        }
        return bytes;
    }

    private static int[] command(int[] instruction, int p1, int p2) {
        int lc = instruction[2] == 0 ? 1 : instruction[2];
        return command(instruction[0], p1, p2, instruction[1], lc);
    }

    private static void wrongShape() {
        for (int[] i : INSTRUCTIONS) {
            Terminal t = new Terminal();
            for (int shape = 1; shape <= 4; shape++) {
                if (shape != i[1]) {
                    // P1 and P2 are wrong too, or no applet is selected: the shape goes before.
                    CHECKS.due(i[0] + " in shape " + shape, t.send(command(i[0], 255, 255, shape, 3)), 26368);
                }
            }
            for (int lc = 1; lc <= 19 && i[1] == 3 && i[2] != 0; lc++) {
                if (lc != i[2]) {
                    CHECKS.due(i[0] + " with Lc " + lc, t.send(command(i[0], 255, 255, 3, lc)), 26368);
                }
            }
            CHECKS.due(i[0] + " left no trace", t.card.session(), NONE);
        }
    }

    private static void wrongParameters() {
        int[] highs = {1, 2, 4, 8, 9, 128, 255};
        for (int[] i : INSTRUCTIONS) {
            Terminal t = new Terminal();
            for (int high : highs) {
                if (high > i[3]) {
                    CHECKS.due(i[0] + " with P1 " + high, t.send(command(i, high, 0)), 27270);
                }
                if (high > i[4]) {
                    CHECKS.due(i[0] + " with P2 " + high, t.send(command(i, 0, high)), 27270);
                }
            }
            CHECKS.due(i[0] + " left no trace", t.card.session(), NONE);
        }
    }

    private static void nothingSelected() {
        for (int[] i : INSTRUCTIONS) {
            Terminal t = new Terminal();
            int due = i[0] == 164 ? DONE : 27013;
            for (int p1 = 0; p1 <= i[3]; p1++) {
                CHECKS.due(i[0] + " with nothing selected", t.send(command(i, p1, 0)), due);
            }
            CHECKS.due(i[0] + " with its highest P2", t.send(command(i, 0, i[4])), due);
        }
    }

    private static void notVerified() {
        for (int[] i : INSTRUCTIONS) {
            if (i[5] == 1) {
                Terminal t = new Terminal();
                t.select(0);
                CHECKS.due(i[0] + " not verified", t.send(command(i, i[3], i[4])), 27010);
                CHECKS.due(i[0] + " not verified", t.send(command(i, 0, 0)), 27010);
                CHECKS.due(i[0] + " not verified: no write", t.card.writes(), 0);
            }
        }
        Terminal u = new Terminal();
        u.select(0);
        CHECKS.due("BEGIN need not be verified", u.begin(), DONE);
        CHECKS.due("END need not be verified", u.commit(), DONE);
    }

    private static void select() {
        Terminal t = Terminal.loggedIn(1);
        CHECKS.due("select 4", t.select(4), 27266);
        CHECKS.due("select 255", t.select(255), 27266);
        CHECKS.due("it stays as it was", t.card.session(), 9);
        CHECKS.due("the same once more", t.select(1), DONE);
        CHECKS.due("verified no more", t.card.session(), 1);
        t.verify(3, 3);
        t.select(2);
        CHECKS.due("its own tries", t.responseText(), "[3]");
        t.select(1);
        CHECKS.due("tries are kept", t.responseText(), "[2]");
    }

    private static void selectEndsTransaction() {
        Terminal t = Terminal.loggedIn(1);
        t.update(0, 5, 6);
        t.begin();
        t.update(0, 7, 8);
        CHECKS.due("select 9 in a transaction", t.select(9), 27266);
        CHECKS.due("leaves it open", t.card.session(), 25);
        CHECKS.due("and pending", t.card.pending(), 2);
        int before = t.card.writes();
        CHECKS.due("select in a transaction", t.select(2), DONE);
        CHECKS.due("it is open no more", t.card.session(), 2);
        CHECKS.due("three writes", t.card.writes(), before + 3);
        CHECKS.due("it was undone", t.card.data(1, 0), 5);
        CHECKS.due("it was undone", t.card.data(1, 1), 6);
        t.begin();
        CHECKS.due("select with nothing to undo", t.select(2), DONE);
        CHECKS.due("no write", t.card.writes(), before + 3);
        CHECKS.due("open no more", t.card.session(), 2);
    }

    private static void verify() {
        Terminal t = Terminal.loggedIn(2);
        t.changeSecret(10, 20);
        CHECKS.due("the first byte is wrong", t.verify(11, 20), 25538);
        CHECKS.due("not verified", t.card.session(), 2);
        CHECKS.due("the second byte is wrong", t.verify(10, 21), 25537);
        CHECKS.due("right", t.verify(10, 20), DONE);
        CHECKS.due("all tries again", t.card.tries(2), 3);
        CHECKS.due("swapped", t.verify(20, 10), 25538);
        CHECKS.due("old", t.verify(0, 0), 25537);
        CHECKS.due("wrong", t.verify(255, 255), 25536);
        int before = t.card.writes();
        CHECKS.due("blocked", t.verify(10, 20), 27011);
        CHECKS.due("blocked, wrong", t.verify(0, 0), 27011);
        CHECKS.due("blocked: no write", t.card.writes(), before);
        CHECKS.due("blocked: tries", t.card.tries(2), 0);
        CHECKS.due("another applet has its own", t.logIn(3), DONE);
        t.select(2);
        CHECKS.due("blocked: the response", t.responseText(), "[0]");
        t.card.reset();
        t.select(2);
        CHECKS.due("blocked after reset", t.verify(10, 20), 27011);
    }

    private static void changeSecret() {
        Terminal t = Terminal.loggedIn(3);
        CHECKS.due("change", t.changeSecret(200, 255), DONE);
        CHECKS.due("still verified", t.card.session(), 11);
        CHECKS.due("settled", t.card.pending(), 0);
        t.select(3);
        CHECKS.due("old secret", t.verify(0, 0), 25538);
        CHECKS.due("new secret", t.verify(200, 255), DONE);
        CHECKS.due("the others keep theirs", t.logIn(2), DONE);
        t.card.reset();
        t.select(3);
        CHECKS.due("after reset", t.verify(200, 255), DONE);
        t.begin();
        t.changeSecret(1, 2);
        CHECKS.due("as it is now", t.verify(1, 2), DONE);
        t.abort();
        CHECKS.due("the change is gone", t.verify(1, 2), 25538);
        CHECKS.due("the one before", t.verify(200, 255), DONE);
    }

    private static void unblock() {
        for (int applet = 1; applet < 4; applet++) {
            Terminal t = Terminal.loggedIn(applet);
            CHECKS.due("unblock by " + applet, t.unblock(applet), 27010);
            CHECKS.due("no write", t.card.writes(), 2);
        }
        for (int applet = 1; applet < 4; applet++) {
            Terminal t = new Terminal();
            t.select(applet);
            t.verify(1, 1);
            t.verify(1, 1);
            t.verify(1, 1);
            t.logIn(0);
            CHECKS.due("unblock another", t.unblock(applet % 3 + 1), DONE);
            CHECKS.due("not this one", t.card.tries(applet), 0);
            CHECKS.due("unblock " + applet, t.unblock(applet), DONE);
            CHECKS.due("its tries", t.card.tries(applet), 3);
            CHECKS.due("unblock itself", t.unblock(0), DONE);
            CHECKS.due("the secret stays", t.logIn(applet), DONE);
        }
    }

    private static void read() {
        Terminal t = Terminal.loggedIn(1);
        t.update(0, Terminal.row(100, 16));
        CHECKS.due("all", t.read(0, 16), DONE);
        CHECKS.due("all of them", t.responseText(), t.dataText(1));
        CHECKS.due("some", t.read(5, 3), DONE);
        CHECKS.due("these", t.responseText(), "[105, 106, 107]");
        CHECKS.due("to the end", t.read(14, 2), DONE);
        CHECKS.due("the last ones", t.responseText(), "[114, 115]");
        CHECKS.due("beyond", t.read(14, 3), 27392);
        CHECKS.due("no response", t.card.length(), 0);
        CHECKS.due("at 16", t.read(16, 1), 27392);
        CHECKS.due("17 bytes", t.read(0, 17), 27392);
        CHECKS.due("Le 0 is 256", t.read(0, 0), 27392);
        CHECKS.due("Le 0 at 16", t.read(16, 0), 27392);
        CHECKS.due("Le 255", t.read(0, 255), 27392);
        CHECKS.due("offset 255", t.read(255, 1), 27392);
        CHECKS.due("offset 255, Le 255", t.read(255, 255), 27392);
        t.logIn(2);
        t.read(0, 2);
        CHECKS.due("its own data", t.responseText(), "[0, 0]");
    }

    private static void update() {
        Terminal t = Terminal.loggedIn(2);
        CHECKS.due("all", t.update(0, Terminal.row(50, 16)), DONE);
        CHECKS.due("the last byte", t.update(15, 255), DONE);
        CHECKS.due("some", t.update(3, 1, 2), DONE);
        CHECKS.due("as data", t.dataText(2), "[50, 51, 52, 1, 2, 55, 56, 57, 58, 59, 60, 61, 62, 63, 64, 255]");
        CHECKS.due("no response", t.card.length(), 0);
        int before = t.card.writes();
        CHECKS.due("beyond", t.update(15, 1, 1), 27392);
        CHECKS.due("at 16", t.update(16, 1), 27392);
        CHECKS.due("17 bytes", t.update(0, Terminal.row(0, 17)), 27392);
        CHECKS.due("offset 255", t.update(255, 1), 27392);
        CHECKS.due("no write", t.card.writes(), before);
        CHECKS.due("applet 1's data", t.dataText(1), new Terminal().dataText(1));
        CHECKS.due("applet 3's data", t.dataText(3), new Terminal().dataText(3));
    }

    private static void transactions() {
        Terminal t = Terminal.loggedIn(0);
        CHECKS.due("end of none", t.commit(), 27013);
        CHECKS.due("abort of none", t.abort(), 27013);
        CHECKS.due("begin", t.begin(), DONE);
        CHECKS.due("begin again", t.begin(), 27013);
        CHECKS.due("still open", t.card.session(), 24);
        t.update(0, 1, 2);
        t.update(1, 3, 4);
        t.update(1, 5);
        CHECKS.due("five notes", t.card.pending(), 5);
        t.read(0, 3);
        CHECKS.due("read in it", t.responseText(), "[1, 5, 4]");
        CHECKS.due("abort", t.abort(), DONE);
        CHECKS.due("all back", t.dataText(0), new Terminal().dataText(0));
        CHECKS.due("five bytes and COUNT", t.card.writes(), 2 + 20 + 6);
        CHECKS.due("not open", t.card.session(), 8);
        CHECKS.due("abort again", t.abort(), 27013);
        t.begin();
        t.update(7, 9);
        CHECKS.due("commit", t.commit(), DONE);
        CHECKS.due("four and one write", t.card.writes(), 28 + 5);
        CHECKS.due("not open then", t.card.session(), 8);
        CHECKS.due("commit again", t.commit(), 27013);
        CHECKS.due("it stays", t.card.reset(), 0);
        CHECKS.due("the byte", t.card.data(0, 7), 9);
    }

    private static void fullJournal() {
        Terminal t = Terminal.loggedIn(0);
        t.begin();
        t.update(0, Terminal.row(1, 16));
        CHECKS.due("21 notes", t.update(0, 1, 2, 3, 4, 5), 27268);
        CHECKS.due("still 16", t.card.pending(), 16);
        CHECKS.due("no byte of it", t.card.data(0, 4), 5);
        CHECKS.due("19 notes", t.update(0, 91, 92, 93), DONE);
        int before = t.card.writes();
        CHECKS.due("no room for a secret", t.changeSecret(1, 1), 27268);
        CHECKS.due("no room for a share", t.grant(0, 1, 0, 1, 0), 27268);
        CHECKS.due("what is wrong goes before", t.update(16, 1), 27392);
        CHECKS.due("what is wrong goes before", t.grant(0, 0, 0, 1, 0), 27264);
        CHECKS.due("no write", t.card.writes(), before);
        CHECKS.due("still open", t.card.session(), 24);
        CHECKS.due("20 notes", t.update(15, 99), DONE);
        CHECKS.due("full", t.update(15, 98), 27268);
        CHECKS.due("tries need no note", t.unblock(1), DONE);
        CHECKS.due("20 notes undone", t.card.reset(), 20);
        CHECKS.due("all back", t.dataText(0), new Terminal().dataText(0));

        Terminal u = Terminal.loggedIn(0);
        u.grant(0, 1, 0, 1, 1);
        u.begin();
        u.update(0, Terminal.row(1, 16));
        u.update(0, 1, 2, 3, 4);
        CHECKS.due("no room to revoke", u.revoke(0), 27268);
        CHECKS.due("no such share goes before", u.revoke(1), 27272);
        CHECKS.due("in use goes before", u.grant(0, 1, 0, 1, 1), 27273);
        CHECKS.due("commit of 20", u.commit(), DONE);
        CHECKS.due("revoke then", u.revoke(0), DONE);

        Terminal v = Terminal.loggedIn(0);
        v.grant(0, 1, 0, 16, 1);
        v.logIn(1);
        v.begin();
        v.update(0, Terminal.row(1, 16));
        CHECKS.due("no room for a shared update", v.updateShared(0, 0, 1, 2, 3, 4, 5), 27268);
        CHECKS.due("room for four", v.updateShared(0, 0, 1, 2, 3, 4), DONE);
    }

    private static void grant() {
        Terminal t = Terminal.loggedIn(1);
        int[][] wrong = {{1, 0, 4, 0}, {4, 0, 4, 0}, {255, 0, 4, 0}, {0, 0, 0, 0}, {0, 16, 0, 0}, {0, 0, 17, 0},
            {0, 16, 1, 0}, {0, 1, 16, 0}, {0, 255, 1, 0}, {0, 1, 255, 0}, {0, 0, 4, 2}, {0, 0, 4, 255}};
        for (int[] w : wrong) {
            String what = "grant " + w[0] + " " + w[1] + " " + w[2] + " " + w[3];
            CHECKS.due(what, t.grant(2, w[0], w[1], w[2], w[3]), 27264);
        }
        CHECKS.due("no write", t.card.writes(), 2);
        CHECKS.due("grant all", t.grant(2, 0, 0, 16, 1), DONE);
        CHECKS.due("as said", t.card.share(2), 5 + 65536 * 16 + 16777216);
        CHECKS.due("17 writes", t.card.writes(), 19);
        CHECKS.due("in use", t.grant(2, 3, 0, 16, 1), 27273);
        CHECKS.due("wrong goes before in use", t.grant(2, 1, 0, 16, 1), 27264);
        CHECKS.due("the last byte", t.grant(7, 3, 15, 1, 0), DONE);
        CHECKS.due("as said", t.card.share(7), 8 + 256 * 15 + 65536);
        t.logIn(0);
        CHECKS.due("in use by another", t.grant(7, 1, 0, 1, 0), 27273);
        CHECKS.due("owner 0, client 1", t.grant(0, 1, 0, 1, 0), DONE);
        CHECKS.due("as said", t.card.share(0), 2 + 65536);
        t.begin();
        t.grant(1, 2, 3, 4, 1);
        CHECKS.due("in a transaction", t.card.share(1), 3 + 256 * 3 + 65536 * 4 + 16777216);
        t.abort();
        CHECKS.due("undone", t.card.share(1), 0);
    }

    private static void revoke() {
        Terminal t = Terminal.loggedIn(2);
        CHECKS.due("not in use", t.revoke(0), 27272);
        t.grant(0, 3, 1, 2, 1);
        int before = t.card.writes();
        t.logIn(3);
        CHECKS.due("by the client", t.revoke(0), 27272);
        t.logIn(0);
        CHECKS.due("by another", t.revoke(0), 27272);
        t.logIn(2);
        CHECKS.due("by the owner", t.revoke(0), DONE);
        CHECKS.due("five writes", t.card.writes(), before + 6 + 5);
        CHECKS.due("the rest stays", t.card.share(0), 256 + 65536 * 2 + 16777216);
        CHECKS.due("again", t.revoke(0), 27272);
        CHECKS.due("free again", t.grant(0, 1, 4, 5, 0), DONE);
        CHECKS.due("as said", t.card.share(0), 10 + 256 * 4 + 65536 * 5);
        t.logIn(0);
        CHECKS.due("applet 0 owns no free share", t.revoke(5), 27272);
    }

    private static Terminal withShares() {
        Terminal t = Terminal.loggedIn(3);
        t.update(0, Terminal.row(30, 16));
        t.grant(1, 1, 10, 6, 0);
        t.grant(6, 1, 2, 3, 1);
        t.logIn(1);
        return t;
    }

    private static void readShared() {
        Terminal t = withShares();
        CHECKS.due("all of the share", t.readShared(1, 0, 6), DONE);
        CHECKS.due("these", t.responseText(), "[40, 41, 42, 43, 44, 45]");
        CHECKS.due("its end", t.readShared(1, 5, 1), DONE);
        CHECKS.due("that one", t.responseText(), "[45]");
        CHECKS.due("of mode 1", t.readShared(6, 1, 2), DONE);
        CHECKS.due("these two", t.responseText(), "[33, 34]");
        CHECKS.due("beyond", t.readShared(6, 1, 3), 27392);
        CHECKS.due("no response", t.card.length(), 0);
        CHECKS.due("at its end", t.readShared(6, 3, 1), 27392);
        CHECKS.due("Le 0 is 256", t.readShared(6, 0, 0), 27392);
        CHECKS.due("offset 255", t.readShared(6, 255, 1), 27392);
        CHECKS.due("not in use", t.readShared(0, 0, 1), 27272);
        CHECKS.due("not in use goes before", t.readShared(0, 255, 0), 27272);
        t.logIn(3);
        CHECKS.due("the owner is no client", t.readShared(1, 0, 1), 27272);
        for (int applet = 0; applet < 4; applet += 2) {
            t.logIn(applet);
            CHECKS.due("another is no client", t.readShared(1, 0, 1), 27272);
        }
        t.logIn(3);
        t.revoke(1);
        t.logIn(1);
        CHECKS.due("revoked", t.readShared(1, 0, 1), 27272);
    }

    private static void updateShared() {
        Terminal t = withShares();
        int before = t.card.writes();
        CHECKS.due("mode 0", t.updateShared(1, 0, 1), 27010);
        CHECKS.due("mode 0 goes before the end", t.updateShared(1, 255, 1), 27010);
        CHECKS.due("not in use", t.updateShared(2, 0, 1), 27272);
        CHECKS.due("beyond", t.updateShared(6, 1, 1, 2, 3), 27392);
        CHECKS.due("at its end", t.updateShared(6, 3, 1), 27392);
        CHECKS.due("offset 255", t.updateShared(6, 255, 1), 27392);
        CHECKS.due("no write", t.card.writes(), before);
        CHECKS.due("all of it", t.updateShared(6, 0, 201, 202, 203), DONE);
        CHECKS.due("13 writes", t.card.writes(), before + 13);
        CHECKS.due("its last byte", t.updateShared(6, 2, 204), DONE);
        CHECKS.due("the owner's data", t.dataText(3),
            "[30, 31, 201, 202, 204, 35, 36, 37, 38, 39, 40, 41, 42, 43, 44, 45]");
        CHECKS.due("the client's data", t.dataText(1), new Terminal().dataText(1));
        t.begin();
        t.updateShared(6, 0, 9, 9);
        CHECKS.due("noted", t.card.pending(), 2);
        t.abort();
        CHECKS.due("undone", t.card.data(3, 2), 201);
        t.logIn(3);
        CHECKS.due("the owner is no client", t.updateShared(6, 0, 1), 27272);
    }

    private static void triesOutliveTransactions() {
        Terminal t = Terminal.loggedIn(0);
        t.begin();
        t.update(0, 1);
        t.verify(7, 7);
        t.verify(7, 7);
        CHECKS.due("abort when not verified", t.abort(), DONE);
        CHECKS.due("tries are not put back", t.card.tries(0), 1);
        CHECKS.due("goes off", t.card.tear(0) && t.verify(0, 0) == OFF, true);
        CHECKS.due("nothing to undo", t.card.reset(), 0);
        CHECKS.due("tries are not put back", t.card.tries(0), 1);
    }
}
