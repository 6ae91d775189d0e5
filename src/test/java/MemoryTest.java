/** 'Terms' up to the commands, and STORE: what lies in the permanent memory and how it is written. */
final class MemoryTest {
    private static final int OFF = AppletFirewall.OFF;
    private static final int NONE = AppletFirewall.NONE;
    private static final int DONE = Terminal.DONE;
    private static final Checks CHECKS = new Checks();

    public static void main(String[] args) {
        applets();
        shares();
        writing();
        power();
        storing();
        CHECKS.end();
    }

    private static void applets() {
        everyAppletHasItsData();
        everyAppletHasItsSecret();
        everyAppletHasItsTries();
        everyShareIsItsOwn();
        journalHoldsTwentyNotes();
    }

    private static void everyAppletHasItsData() {
        CHECKS.sentence("APPLETS 0 .. 3 have in the permanent memory: DATA 0 .. 15 (bytes, at first 0)");
        for (int applet = 0; applet < 4; applet++) {
            Terminal t = Terminal.loggedIn(applet);
            CHECKS.due("at first", t.dataText(applet), "[0, 0, 0, 0, 0, 0, 0, 0, 0, 0, 0, 0, 0, 0, 0, 0]");
            t.update(0, 255);
            t.update(15, 128);
            for (int other = 0; other < 4; other++) {
                String due = other == applet ? "[255, 0, 0, 0, 0, 0, 0, 0, 0, 0, 0, 0, 0, 0, 0, 128]"
                    : "[0, 0, 0, 0, 0, 0, 0, 0, 0, 0, 0, 0, 0, 0, 0, 0]";
                CHECKS.due("data of " + other + " after updates of " + applet, t.dataText(other), due);
            }
            t.update(0, Terminal.row(0, 16));
            t.logIn((applet + 1) % 4);
            t.update(0, Terminal.row(240, 16));
            CHECKS.due("data of " + applet + " beside a full neighbour", t.dataText(applet),
                "[0, 1, 2, 3, 4, 5, 6, 7, 8, 9, 10, 11, 12, 13, 14, 15]");
        }
    }

    private static void everyAppletHasItsSecret() {
        CHECKS.sentence("a SECRET of two bytes (at first 0, 0)");
        for (int applet = 0; applet < 4; applet++) {
            Terminal t = new Terminal();
            t.select(applet);
            CHECKS.due("at first not 0, 1", t.verify(0, 1), 25538);
            CHECKS.due("at first not 1, 0", t.verify(1, 0), 25537);
            CHECKS.due("at first 0, 0", t.verify(0, 0), DONE);
            t.changeSecret(255, 128);
            for (int other = 0; other < 4; other++) {
                t.select(other);
                int due = other == applet ? 25538 : DONE;
                CHECKS.due("0, 0 for " + other + " after a change of " + applet, t.verify(0, 0), due);
            }
            t.select(applet);
            CHECKS.due("its new secret", t.verify(255, 128), DONE);
            CHECKS.due("no data were touched", t.dataText(applet), new Terminal().dataText(applet));
        }
    }

    private static void everyAppletHasItsTries() {
        CHECKS.sentence("TRIES (at first 3)");
        for (int applet = 0; applet < 4; applet++) {
            Terminal t = new Terminal();
            CHECKS.due("at first", t.card.tries(applet), 3);
            t.select(applet);
            t.verify(1, 1);
            for (int other = 0; other < 4; other++) {
                CHECKS.due("tries of " + other, t.card.tries(other), other == applet ? 2 : 3);
            }
        }
    }

    private static void everyShareIsItsOwn() {
        CHECKS.sentence("The memory also has SHARES 0 .. 7 of four bytes (at first 0)");
        for (int share = 0; share < 8; share++) {
            Terminal t = Terminal.loggedIn(3);
            CHECKS.due("at first", t.card.share(share), 0);
            t.grant(share, 2, 3, 13, 1);
            for (int other = 0; other < 8; other++) {
                int due = other == share ? 15 + 256 * 3 + 65536 * 13 + 16777216 : 0;
                CHECKS.due("share " + other + " after a grant of " + share, t.card.share(other), due);
            }
            CHECKS.due("tries", t.card.tries(3), 3);
        }
        Terminal all = Terminal.loggedIn(0);
        for (int share = 0; share < 8; share++) {
            CHECKS.due("all are free, " + share, all.grant(share, 1, share, 8, share % 2), DONE);
        }
        for (int share = 0; share < 8; share++) {
            int due = 2 + 256 * share + 65536 * 8 + 16777216 * (share % 2);
            CHECKS.due("all are kept, " + share, all.card.share(share), due);
        }
    }

    private static void journalHoldsTwentyNotes() {
        CHECKS.sentence("a JOURNAL of at most 20 notes with its COUNT (at first 0)");
        CHECKS.due("at first", new Terminal().card.pending(), 0);
        Terminal t = Terminal.loggedIn(0);
        t.update(0, Terminal.row(50, 16));
        t.grant(7, 3, 1, 2, 1);
        t.begin();
        t.update(0, Terminal.row(100, 16));
        t.update(12, Terminal.row(200, 4));
        CHECKS.due("twenty", t.card.pending(), 20);
        CHECKS.due("one more", t.update(0, 1), 27268);
        CHECKS.due("still twenty", t.card.pending(), 20);
        CHECKS.due("all are undone", t.abort(), DONE);
        CHECKS.due("data", t.dataText(0), "[50, 51, 52, 53, 54, 55, 56, 57, 58, 59, 60, 61, 62, 63, 64, 65]");
        CHECKS.due("the full journal touches no share", t.card.share(7), 4 + 256 + 65536 * 2 + 16777216);
        CHECKS.due("COUNT", t.card.pending(), 0);
    }

    private static void shares() {
        inUseByFirstByte();
        firstByteTellsOwnerAndClient();
        modes();
        clientUsesItsRangeOnly();
    }

    private static void inUseByFirstByte() {
        CHECKS.sentence("A SHARE is in use when its first byte is not 0");
        Terminal t = Terminal.loggedIn(0);
        t.grant(0, 1, 2, 3, 1);
        CHECKS.due("in use", t.grant(0, 1, 2, 3, 1), 27273);
        t.revoke(0);
        CHECKS.due("the other bytes are not 0", t.card.share(0), 256 * 2 + 65536 * 3 + 16777216);
        CHECKS.due("not in use for its owner", t.revoke(0), 27272);
        t.logIn(1);
        CHECKS.due("not in use for its client", t.readShared(0, 0, 1), 27272);
        CHECKS.due("not in use for its client", t.updateShared(0, 0, 1), 27272);
        CHECKS.due("free for another", t.grant(0, 2, 0, 1, 0), DONE);
    }

    private static void firstByteTellsOwnerAndClient() {
        CHECKS.sentence("the first byte is 1 + 4 * owner + client (two applets)");
        for (int owner = 0; owner < 4; owner++) {
            for (int client = 0; client < 4; client++) {
                Terminal t = Terminal.loggedIn(owner);
                t.update(5, 40 + owner);
                int status = t.grant(0, client, 5, 1, 0);
                CHECKS.due("grant by " + owner + " to " + client, status, owner == client ? 27264 : DONE);
                int first = owner == client ? 0 : 1 + 4 * owner + client;
                CHECKS.due("first byte", t.card.share(0) % 256, first);
                for (int user = 0; user < 4; user++) {
                    t.logIn(user);
                    boolean may = owner != client && user == client;
                    String what = "of " + owner + " to " + client + " read by " + user;
                    CHECKS.due(what, t.readShared(0, 0, 1), may ? DONE : 27272);
                    CHECKS.due(what + ": response", t.responseText(), may ? "[" + (40 + owner) + "]" : "[]");
                }
            }
        }
    }

    private static void modes() {
        CHECKS.sentence("a mode (0 for reading, 1 for reading and changing)");
        for (int mode = 0; mode < 2; mode++) {
            Terminal t = Terminal.loggedIn(2);
            t.grant(4, 0, 0, 16, mode);
            t.logIn(0);
            CHECKS.due("reading in mode " + mode, t.readShared(4, 0, 16), DONE);
            CHECKS.due("changing in mode " + mode, t.updateShared(4, 0, 8), mode == 1 ? DONE : 27010);
            CHECKS.due("data in mode " + mode, t.card.data(2, 0), mode == 1 ? 8 : 0);
        }
    }

    private static void clientUsesItsRangeOnly() {
        CHECKS.sentence("the client may use the owner's data offset .. offset + length - 1");
        for (int offset = 0; offset < 16; offset++) {
            for (int length = 1; offset + length <= 16; length++) {
                Terminal t = Terminal.loggedIn(3);
                t.update(0, Terminal.row(100, 16));
                t.grant(1, 2, offset, length, 1);
                t.logIn(2);
                String what = "share of " + length + " at " + offset;
                CHECKS.due(what + ": first", t.readShared(1, 0, 1), DONE);
                CHECKS.due(what + ": first byte", t.card.response(0), 100 + offset);
                CHECKS.due(what + ": last", t.readShared(1, length - 1, 1), DONE);
                CHECKS.due(what + ": last byte", t.card.response(0), 100 + offset + length - 1);
                CHECKS.due(what + ": behind", t.readShared(1, length, 1), 27392);
                CHECKS.due(what + ": all", t.readShared(1, 0, length), DONE);
                CHECKS.due(what + ": all and one", t.readShared(1, 0, length + 1), 27392);
                CHECKS.due(what + ": changing behind", t.updateShared(1, length, 1), 27392);
                CHECKS.due(what + ": changing all", t.updateShared(1, 0, Terminal.row(200, length)), DONE);
                for (int i = 0; i < 16; i++) {
                    boolean shared = i >= offset && i < offset + length;
                    CHECKS.due(what + ": data " + i, t.card.data(3, i), shared ? 200 + i - offset : 100 + i);
                }
            }
        }
    }

    private static void writing() {
        sameByteIsWritten();
        changeTakesFourWrites();
        changeNotesWhatWas();
        undoLatestFirst();
        undoTakesOneWriteForEach();
        undoOfNothing();
        settleTakesOneWrite();
        settleOfNothing();
    }

    private static void sameByteIsWritten() {
        CHECKS.sentence("A write puts one byte into the permanent memory (also if it is the one that was there)");
        Terminal t = Terminal.loggedIn(0);
        t.update(0, 0, 0, 0);
        CHECKS.due("update by the same bytes", t.card.writes(), 2 + 13);
        t.changeSecret(0, 0);
        CHECKS.due("the same secret", t.card.writes(), 15 + 9);
        t.unblock(2);
        CHECKS.due("tries that are 3", t.card.writes(), 24 + 1);
        t.card.tear(0);
        CHECKS.due("it can fail too", t.unblock(2), OFF);
    }

    private static void changeTakesFourWrites() {
        CHECKS.sentence("To CHANGE a byte takes four writes: two for a note, one by which COUNT grows, one of the new byte");
        for (int n = 0; n <= 4; n++) {
            Terminal t = Terminal.withNotes(0);
            t.card.tear(n);
            CHECKS.due("change cut off at " + n, t.update(9, 77), n < 4 ? OFF : DONE);
            CHECKS.due("writes", t.card.writes(), 2 + n);
            // COUNT has grown by the third write, so from there on the note is undone.
            CHECKS.due("notes", t.card.failures() == 0 ? 1 : t.card.reset(), n < 3 ? 0 : 1);
        }
        Terminal u = Terminal.withNotes(0);
        for (int i = 1; i <= 20; i++) {
            u.update(3, i);
            CHECKS.due("writes of " + i, u.card.writes(), 2 + 4 * i);
            CHECKS.due("COUNT of " + i, u.card.pending(), i);
        }
    }

    private static void changeNotesWhatWas() {
        CHECKS.sentence("a note of where it lies and of what it was");
        for (int applet = 0; applet < 4; applet++) {
            Terminal t = Terminal.loggedIn(applet);
            t.update(0, Terminal.row(240, 16));
            t.changeSecret(250, 251);
            String before = t.memoryText();
            t.begin();
            t.update(0, Terminal.row(1, 16));
            t.changeSecret(3, 4);
            t.abort();
            CHECKS.due("data of " + applet, t.memoryText(), before);
            CHECKS.due("the secret of " + applet, t.verify(250, 251), DONE);
        }
        for (int s = 0; s < 8; s++) {
            int share = s;
            Terminal t = Terminal.loggedIn(3);
            t.grant(share, 2, 15, 1, 1);
            dueUndone("revoke of " + share, t, x -> x.revoke(share));
            t.revoke(share);
            dueUndone("grant of " + share, t, x -> x.grant(share, 0, 2, 3, 0));
        }
    }

    private static void dueUndone(String what, Terminal t, Command command) {
        String before = t.memoryText();
        t.begin();
        CHECKS.due(what, command.sendTo(t), DONE);
        CHECKS.due(what + " changes the memory", t.memoryText().equals(before), false);
        t.abort();
        CHECKS.due(what + ", undone", t.memoryText(), before);
    }

    private static void undoLatestFirst() {
        CHECKS.sentence("To UNDO: the bytes of the notes are put back, the latest note first");
        Command[] ways = {t -> t.abort(), t -> t.select(0), t -> t.card.reset()};
        for (int i = 0; i < ways.length; i++) {
            Terminal t = Terminal.loggedIn(0);
            t.update(6, 10);
            t.begin();
            t.update(6, 20);
            t.update(6, 30);
            t.update(6, 40);
            ways[i].sendTo(t);
            CHECKS.due("the first value, undone in way " + i, t.card.data(0, 6), 10);
        }
        Terminal u = Terminal.withNotes(0);
        u.update(2, 20);
        u.update(3, 30);
        u.card.tear(1);
        u.abort();
        CHECKS.due("cut off after one", u.card.reset(), 2);
        CHECKS.due("both are back", u.card.data(0, 2) + u.card.data(0, 3), 0);
    }

    private static void undoTakesOneWriteForEach() {
        CHECKS.sentence("one write for each; then one write makes COUNT 0");
        for (int notes = 1; notes <= 20; notes++) {
            Terminal t = Terminal.withNotes(notes);
            CHECKS.due("abort of " + notes, t.abort(), DONE);
            CHECKS.due("writes of " + notes, t.card.writes(), 2 + 4 * notes + notes + 1);
            CHECKS.due("COUNT of " + notes, t.card.pending(), 0);
        }
    }

    private static void undoOfNothing() {
        CHECKS.sentence("if COUNT is 0 there is nothing to undo and no write");
        Command[] ways = {t -> t.abort(), t -> t.select(0), t -> t.card.reset() == 0 ? DONE : OFF};
        for (int i = 0; i < ways.length; i++) {
            Terminal t = Terminal.withNotes(0);
            t.card.tear(0);
            CHECKS.due("undone in way " + i, ways[i].sendTo(t), DONE);
            CHECKS.due("writes in way " + i, t.card.writes(), 2);
            CHECKS.due("failures in way " + i, t.card.failures(), 0);
        }
    }

    private static void settleTakesOneWrite() {
        CHECKS.sentence("To SETTLE is one write that makes COUNT 0");
        for (int notes = 1; notes <= 20; notes++) {
            Terminal t = Terminal.withNotes(notes);
            CHECKS.due("commit of " + notes, t.commit(), DONE);
            CHECKS.due("writes of " + notes, t.card.writes(), 2 + 4 * notes + 1);
            CHECKS.due("COUNT of " + notes, t.card.pending(), 0);
        }
    }

    private static void settleOfNothing() {
        CHECKS.sentence("none if it is 0");
        Terminal t = Terminal.withNotes(0);
        t.card.tear(0);
        CHECKS.due("commit", t.commit(), DONE);
        CHECKS.due("writes", t.card.writes(), 2);
        CHECKS.due("failures", t.card.failures(), 0);
    }

    private static void power() {
        failedWriteIsNotDone();
        callEndsAtOnce();
        offUntilReset();
        writtenStaysWritten();
        goneWhenOff();
        goneAtReset();
    }

    private static void failedWriteIsNotDone() {
        CHECKS.sentence("The power can be made to fail at a write: that write is not done");
        Terminal t = new Terminal();
        t.select(2);
        t.card.tear(0);
        CHECKS.due("verify", t.verify(1, 1), OFF);
        CHECKS.due("writes", t.card.writes(), 0);
        t.card.reset();
        CHECKS.due("tries", t.card.tries(2), 3);
    }

    private static void callEndsAtOnce() {
        CHECKS.sentence("the call ends at once");
        for (int n = 0; n < 65; n++) {
            Terminal t = Terminal.loggedIn(0);
            t.card.tear(n);
            CHECKS.due("update cut off at " + n, t.update(0, Terminal.row(1, 16)), OFF);
            CHECKS.due("no write behind " + n, t.card.writes(), 2 + n);
            CHECKS.due("one failure", t.card.failures(), 1);
        }
    }

    private static void offUntilReset() {
        CHECKS.sentence("the card is OFF until reset()");
        Terminal t = Terminal.cutOff();
        t.card.put(1, 1);
        t.card.run();
        t.card.tear(5);
        t.select(0);
        CHECKS.due("still off", t.card.session(), OFF);
        CHECKS.due("pending", t.card.pending(), OFF);
        t.card.reset();
        CHECKS.due("on", t.card.session(), NONE);
        CHECKS.due("pending then", t.card.pending(), 0);
    }

    private static void writtenStaysWritten() {
        CHECKS.sentence("What was written before stays written");
        Terminal t = new Terminal();
        t.select(2);
        t.card.tear(1);
        CHECKS.due("verify cut off at its second write", t.verify(0, 0), OFF);
        t.card.reset();
        CHECKS.due("the first one stays", t.card.tries(2), 2);
        t.logIn(1);
        t.update(0, 5, 6);
        t.changeSecret(7, 8);
        t.grant(3, 2, 0, 1, 0);
        String before = t.memoryText();
        t.card.tear(0);
        t.update(0, 9);
        t.card.reset();
        CHECKS.due("data, tries and shares", t.memoryText(), before);
        t.select(1);
        CHECKS.due("the secret", t.verify(7, 8), DONE);
    }

    /** Applet 1 is verified with an open transaction, a response and input. */
    private static Terminal busy() {
        Terminal t = Terminal.loggedIn(1);
        t.begin();
        t.read(0, 3);
        t.putAll(Terminal.withPayload(32, 0, 0, 0, 0));
        return t;
    }

    private static void goneWhenOff() {
        CHECKS.sentence("When the card goes off, all that is not in the permanent memory is gone");
        Terminal t = busy();
        t.card.tear(0);
        t.card.run();
        CHECKS.due("input", t.card.waiting(), 0);
        CHECKS.due("response", t.card.length(), 0);
        CHECKS.due("response byte", t.card.response(0), NONE);
        t.card.reset();
        dueGone(t);
        Terminal u = Terminal.withNotes(2);
        u.card.tear(0);
        CHECKS.due("reset cut off", u.card.reset(), OFF);
        u.card.reset();
        dueGone(u);
    }

    private static void goneAtReset() {
        CHECKS.sentence("When reset() is called, all that is not in the permanent memory is gone");
        Terminal t = busy();
        t.card.reset();
        dueGone(t);
    }

    private static void dueGone(Terminal t) {
        CHECKS.due("input is empty", t.card.waiting(), 0);
        CHECKS.due("response is empty", t.card.length(), 0);
        CHECKS.due("no response byte", t.card.response(0), NONE);
        CHECKS.due("no applet is selected", t.card.session(), NONE);
        CHECKS.due("so none can be verified", t.verify(0, 0), 27013);
        CHECKS.due("nor end a transaction", t.commit(), 27013);
        t.select(1);
        CHECKS.due("nothing is verified, no transaction is open", t.card.session(), 1);
        CHECKS.due("nothing is verified", t.read(0, 1), 27010);
        CHECKS.due("no transaction is open", t.commit(), 27013);
    }

    private static void storing() {
        storeFillsTheJournal();
        storeRefusedChangesNothing();
        storeInTransactionIsNotSettled();
        storeOutsideIsSettled();
    }

    /** Each instruction that stores, and how many bytes it stores here. */
    private static final Command[] STORES = {t -> t.update(0, 61, 62, 63), t -> t.changeSecret(64, 65),
        t -> t.grant(3, 1, 5, 6, 1), t -> t.revoke(2), t -> t.updateShared(1, 2, 66, 67, 68, 69, 70)};
    private static final int[] STORED = {3, 2, 4, 1, 5};

    /** Applet 0 is logged in, has granted share 2, and is client of share 1. */
    private static Terminal ready() {
        Terminal t = Terminal.loggedIn(3);
        t.grant(1, 0, 4, 8, 1);
        t.logIn(0);
        t.grant(2, 3, 0, 16, 0);
        return t;
    }

    private static Terminal readyWithNotes(int notes) {
        Terminal t = ready();
        t.begin();
        t.addNotes(notes);
        return t;
    }

    private static void storeFillsTheJournal() {
        CHECKS.sentence("while a transaction is open, 27268 if COUNT + n is more than 20");
        for (int i = 0; i < STORES.length; i++) {
            for (int notes = 14; notes <= 20; notes++) {
                Terminal t = readyWithNotes(notes);
                boolean fits = notes + STORED[i] <= 20;
                String what = "store " + i + " of " + STORED[i] + " behind " + notes;
                CHECKS.due(what, STORES[i].sendTo(t), fits ? DONE : 27268);
                CHECKS.due(what + ": COUNT", t.card.pending(), fits ? notes + STORED[i] : notes);
            }
        }
        Terminal u = Terminal.withNotes(4);
        CHECKS.due("16 behind 4", u.update(0, Terminal.row(1, 16)), DONE);
        Terminal v = Terminal.withNotes(5);
        CHECKS.due("16 behind 5", v.update(0, Terminal.row(1, 16)), 27268);
    }

    private static void storeRefusedChangesNothing() {
        CHECKS.sentence("27268 if COUNT + n is more than 20, otherwise the bytes are changed");
        for (int i = 0; i < STORES.length; i++) {
            CHECKS.refused("store " + i, readyWithNotes(21 - STORED[i]), STORES[i], 27268);
            Terminal t = readyWithNotes(20);
            STORES[i].sendTo(t);
            CHECKS.due("the transaction can end", t.commit(), DONE);
            CHECKS.due("then there is room", STORES[i].sendTo(t), DONE);
        }
        Terminal u = readyWithNotes(20);
        u.changeSecret(1, 2);
        CHECKS.due("the secret is as before", u.verify(0, 0), DONE);
    }

    private static void storeInTransactionIsNotSettled() {
        CHECKS.sentence("otherwise the bytes are changed one after the other");
        for (int i = 0; i < STORES.length; i++) {
            Terminal t = ready();
            t.begin();
            int before = t.card.writes();
            CHECKS.due("store " + i, STORES[i].sendTo(t), DONE);
            CHECKS.due("COUNT", t.card.pending(), STORED[i]);
            CHECKS.due("four writes for each", t.card.writes(), before + 4 * STORED[i]);
            CHECKS.due("cut off, all are undone", t.card.reset(), STORED[i]);
        }
    }

    private static void storeOutsideIsSettled() {
        CHECKS.sentence("while none is open, they are changed likewise, and then the journal is settled");
        for (int i = 0; i < STORES.length; i++) {
            Terminal t = ready();
            int before = t.card.writes();
            CHECKS.due("store " + i, STORES[i].sendTo(t), DONE);
            CHECKS.due("COUNT", t.card.pending(), 0);
            CHECKS.due("four writes for each, and one", t.card.writes(), before + 4 * STORED[i] + 1);
            CHECKS.due("nothing to undo", t.card.reset(), 0);
        }
        Terminal u = Terminal.loggedIn(0);
        CHECKS.due("16 bytes", u.update(0, Terminal.row(1, 16)), DONE);
        CHECKS.due("16 bytes more", u.update(0, Terminal.row(2, 16)), DONE);
        CHECKS.due("writes", u.card.writes(), 2 + 65 + 65);
    }
}
