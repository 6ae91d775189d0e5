/** The promises 1 to 15, sentence by sentence; what 'Terms' says is in the other tests. */
final class PromisesTest {
    private static final int OFF = AppletFirewall.OFF;
    private static final int NONE = AppletFirewall.NONE;
    private static final int DONE = Terminal.DONE;
    private static final int[] FAR = {Integer.MIN_VALUE, -256, -1, 256, Integer.MAX_VALUE};
    private static final Checks CHECKS = new Checks();

    public static void main(String[] args) {
        promise1();
        promise2();
        promise3();
        promises4To6();
        promise7();
        promise8();
        promises9And10();
        promise11Data();
        promise12Tries();
        promise13Share();
        promise14Pending();
        promise15Session();
        CHECKS.end();
    }

    private static void promise1() {
        newMemory();
        newCardIsOn();
        nothingIsArmed();
        noObjectKnowsAnother();
    }

    private static void newMemory() {
        CHECKS.sentence("1: The permanent memory is as said");
        AppletFirewall x = new AppletFirewall();
        for (int applet = 0; applet < 4; applet++) {
            for (int i = 0; i < 16; i++) {
                CHECKS.due("data " + applet + ", " + i, x.data(applet, i), 0);
            }
            CHECKS.due("tries " + applet, x.tries(applet), 3);
        }
        for (int share = 0; share < 8; share++) {
            CHECKS.due("share " + share, x.share(share), 0);
        }
        CHECKS.due("pending", x.pending(), 0);
    }

    private static void newCardIsOn() {
        CHECKS.sentence("1: the card is on");
        AppletFirewall x = new AppletFirewall();
        CHECKS.due("session", x.session(), NONE);
        CHECKS.due("waiting", x.waiting(), 0);
        CHECKS.due("length", x.length(), 0);
        CHECKS.due("response", x.response(0), NONE);
        CHECKS.due("writes", x.writes(), 0);
        CHECKS.due("failures", x.failures(), 0);
        CHECKS.due("put", x.put(1, 1), true);
        CHECKS.due("run", x.run(), 26368);
        CHECKS.due("reset", x.reset(), 0);
    }

    private static void nothingIsArmed() {
        CHECKS.sentence("1: nothing is armed");
        Terminal t = Terminal.loggedIn(0);
        for (int i = 0; i < 20; i++) {
            CHECKS.due("update " + i, t.update(0, Terminal.row(i, 16)), DONE);
        }
        CHECKS.due("more writes than can be armed", t.card.writes(), 2 + 20 * 65);
        CHECKS.due("failures", t.card.failures(), 0);
    }

    private static void noObjectKnowsAnother() {
        CHECKS.sentence("1: A new object");
        Terminal used = Terminal.withNotes(3);
        used.grant(0, 1, 0, 1, 1);
        used.card.tear(0);
        used.card.put(1, 5);
        Terminal fresh = new Terminal();
        CHECKS.due("waiting", fresh.card.waiting(), 0);
        CHECKS.due("session", fresh.card.session(), NONE);
        CHECKS.due("share", fresh.card.share(0), 0);
        CHECKS.due("pending", fresh.card.pending(), 0);
        CHECKS.due("not armed", fresh.logIn(1), DONE);
        CHECKS.due("the used one stays", used.card.session(), 24);
        CHECKS.due("the used one's input", used.card.waiting(), 5);
    }

    private static void promise2() {
        putLowestBytes();
        putHighestFirst();
        putAppends();
        putWhenOff();
        putWrongNumber();
        putFillsTheInput();
        putRefusedChangesNothing();
    }

    private static void putLowestBytes() {
        CHECKS.sentence("2: Appends the lowest n bytes of bytes");
        for (int n = 1; n <= 8; n++) {
            AppletFirewall x = new AppletFirewall();
            CHECKS.due("put of " + n, x.put(-1, n), true);
            CHECKS.due("waiting of " + n, x.waiting(), n);
        }
        Terminal t = Terminal.loggedIn(0);
        t.card.put(0x7777777780D60001L, 4);
        t.card.put(0x77770301FFFEL, 4);
        CHECKS.due("the higher ones are not looked at", t.card.run(), DONE);
        CHECKS.due("data", t.dataText(0), "[0, 1, 255, 254, 0, 0, 0, 0, 0, 0, 0, 0, 0, 0, 0, 0]");
        t.putAll(128, 214, 0, 15, 1);
        t.card.put(-256, 1);
        CHECKS.due("the lowest of a negative long is 0", t.card.run(), DONE);
        t.putAll(128, 214, 0, 14, 1);
        t.card.put(Long.MAX_VALUE, 1);
        CHECKS.due("the lowest of the highest long is 255", t.card.run(), DONE);
        CHECKS.due("data then", t.dataText(0), "[0, 1, 255, 254, 0, 0, 0, 0, 0, 0, 0, 0, 0, 0, 255, 0]");
    }

    private static void putHighestFirst() {
        CHECKS.sentence("2: the highest of them first");
        Terminal t = Terminal.loggedIn(0);
        t.card.put(0x80D6000003FFFE80L, 8);
        CHECKS.due("eight bytes of a negative long", t.card.run(), DONE);
        CHECKS.due("data", t.dataText(0), "[255, 254, 128, 0, 0, 0, 0, 0, 0, 0, 0, 0, 0, 0, 0, 0]");
    }

    private static void putAppends() {
        CHECKS.sentence("2: to the input: true");
        Terminal t = Terminal.loggedIn(0);
        CHECKS.due("one byte", t.card.put(-128, 1), true);
        CHECKS.due("three bytes", t.card.put(0xD60000, 3), true);
        CHECKS.due("eight bytes", t.card.put(0x0702030405060708L, 8), true);
        CHECKS.due("run of all", t.card.run(), DONE);
        CHECKS.due("data", t.dataText(0), "[2, 3, 4, 5, 6, 7, 8, 0, 0, 0, 0, 0, 0, 0, 0, 0]");
    }

    private static void putWhenOff() {
        CHECKS.sentence("2: false, changing nothing, when the card is off");
        AppletFirewall off = Terminal.cutOff().card;
        for (int n = 0; n <= 9; n++) {
            CHECKS.due("put of " + n, off.put(1, n), false);
        }
        CHECKS.due("waiting", off.waiting(), 0);
        CHECKS.due("still off", off.session(), OFF);
        off.reset();
        CHECKS.due("waiting when on again", off.waiting(), 0);
        CHECKS.due("put when on again", off.put(1, 1), true);
    }

    private static void putWrongNumber() {
        CHECKS.sentence("2: false, changing nothing, when n is not 1 .. 8");
        AppletFirewall x = new AppletFirewall();
        int[] wrong = {Integer.MIN_VALUE, -8, -1, 0, 9, 16, 257, Integer.MAX_VALUE};
        for (int n : wrong) {
            CHECKS.due("put of " + n + " to none", x.put(1, n), false);
            CHECKS.due("waiting", x.waiting(), 0);
        }
        x.put(1, 8);
        for (int n : wrong) {
            CHECKS.due("put of " + n + " to eight", x.put(1, n), false);
            CHECKS.due("waiting", x.waiting(), 8);
        }
    }

    private static void putFillsTheInput() {
        CHECKS.sentence("2: false, changing nothing, when the input would have more than 24");
        for (int n = 1; n <= 8; n++) {
            CHECKS.due("up to 24 by " + n, withWaiting(24 - n).put(-1, n), true);
            AppletFirewall x = withWaiting(25 - n);
            CHECKS.due("up to 25 by " + n, x.put(-1, n), false);
            CHECKS.due("waiting", x.waiting(), 25 - n);
            AppletFirewall full = withWaiting(24);
            CHECKS.due(n + " beyond the full input", full.put(-1, n), false);
            CHECKS.due("waiting, full", full.waiting(), 24);
        }
    }

    private static AppletFirewall withWaiting(int n) {
        AppletFirewall x = new AppletFirewall();
        for (int i = 0; i < n; i++) {
            x.put(-1, 1);
        }
        return x;
    }

    private static void putRefusedChangesNothing() {
        CHECKS.sentence("2: changing nothing");
        Terminal t = Terminal.loggedIn(0);
        t.read(0, 2);
        t.putAll(Terminal.withPayload(214, 0, 0, Terminal.row(1, 16)));
        CHECKS.due("four more than 21", t.card.put(-1, 4), false);
        CHECKS.due("none", t.card.put(-1, 0), false);
        CHECKS.due("nine", t.card.put(-1, 9), false);
        CHECKS.due("the response stays", t.card.length(), 2);
        CHECKS.due("the command is whole", t.card.run(), DONE);
        CHECKS.due("data", t.dataText(0), "[1, 2, 3, 4, 5, 6, 7, 8, 9, 10, 11, 12, 13, 14, 15, 16]");
    }

    private static void promise3() {
        runCarriesOut();
        runEmptiesInput();
        runGivesResponse();
        runWithoutResponse();
        runRefusedHasNoResponse();
        runWhenOff();
        runGoesOff();
    }

    private static void runCarriesOut() {
        CHECKS.sentence("3: Carries out the input as a command and answers its status");
        Terminal t = new Terminal();
        CHECKS.due("the empty input", t.card.run(), 26368);
        t.putAll(128, 164, 0, 0, 1, 2);
        CHECKS.due("not before run", t.card.session(), NONE);
        CHECKS.due("select", t.card.run(), DONE);
        CHECKS.due("it was carried out", t.card.session(), 2);
    }

    private static void runEmptiesInput() {
        CHECKS.sentence("3: the input is empty then");
        Terminal t = new Terminal();
        t.select(1);
        CHECKS.due("after a command that was done", t.card.waiting(), 0);
        CHECKS.due("it is not run again", t.card.run(), 26368);
        t.select(4);
        CHECKS.due("after one that was refused", t.card.waiting(), 0);
        t.send(128, 164, 0);
        CHECKS.due("after one that was badly formed", t.card.waiting(), 0);
        t.send(new int[24]);
        CHECKS.due("after a full one", t.card.waiting(), 0);
        CHECKS.due("the next one begins anew", t.select(3), DONE);
    }

    private static void runGivesResponse() {
        CHECKS.sentence("3: the response is the command's");
        Terminal t = Terminal.loggedIn(1);
        t.update(0, 71, 72, 73, 74);
        t.read(0, 4);
        CHECKS.due("four bytes", t.responseText(), "[71, 72, 73, 74]");
        t.read(1, 2);
        CHECKS.due("only those of the next one", t.responseText(), "[72, 73]");
        t.select(1);
        CHECKS.due("select's", t.responseText(), "[3]");
    }

    private static void runWithoutResponse() {
        CHECKS.sentence("3: empty if nothing is said of one");
        Terminal t = Terminal.loggedIn(1);
        t.grant(2, 0, 0, 16, 1);
        t.logIn(0);
        dueSilent("VERIFY", t, x -> x.verify(0, 0));
        dueSilent("CHANGE SECRET", t, x -> x.changeSecret(1, 1));
        dueSilent("UNBLOCK", t, x -> x.unblock(1));
        dueSilent("UPDATE", t, x -> x.update(0, 1));
        dueSilent("BEGIN", t, x -> x.begin());
        dueSilent("END that settles", t, x -> x.commit());
        dueSilent("BEGIN", t, x -> x.begin());
        dueSilent("END that undoes", t, x -> x.abort());
        dueSilent("GRANT", t, x -> x.grant(0, 1, 0, 1, 0));
        dueSilent("REVOKE", t, x -> x.revoke(0));
        dueSilent("UPDATE SHARED", t, x -> x.updateShared(2, 0, 9));
    }

    private static void dueSilent(String what, Terminal t, Command command) {
        t.read(0, 5);
        CHECKS.due(what, command.sendTo(t), DONE);
        CHECKS.due(what + ": length", t.card.length(), 0);
        CHECKS.due(what + ": response", t.card.response(0), NONE);
    }

    private static void runRefusedHasNoResponse() {
        CHECKS.sentence("3: empty if the status is not 36864");
        int[][] refused = {{}, {1, 176, 0, 0, 1}, {128, 1, 0, 0}, {128, 176, 0, 0}, {128, 176, 1, 0, 1},
            {128, 164, 0, 0, 1, 4}, {128, 32, 0, 0, 2, 1, 1}, {128, 176, 0, 16, 1}, {128, 178, 0, 0, 1}};
        for (int[] command : refused) {
            Terminal t = Terminal.loggedIn(0);
            t.read(0, 16);
            CHECKS.due("refused", t.send(command) == DONE, false);
            CHECKS.due("length", t.card.length(), 0);
            CHECKS.due("response", t.card.response(0), NONE);
        }
    }

    private static void runWhenOff() {
        CHECKS.sentence("3: OFF when the card is off");
        Terminal t = Terminal.cutOff();
        CHECKS.due("run", t.card.run(), OFF);
        CHECKS.due("select", t.select(0), OFF);
        CHECKS.due("nothing was done", t.card.session(), OFF);
        CHECKS.due("no response", t.card.length(), 0);
        CHECKS.due("no failure", t.card.failures(), 1);
    }

    private static void runGoesOff() {
        CHECKS.sentence("3: OFF when the card goes off");
        Terminal t = Terminal.loggedIn(1);
        t.read(0, 4);
        t.card.tear(0);
        CHECKS.due("verify", t.verify(0, 0), OFF);
        CHECKS.due("the input", t.card.waiting(), 0);
        CHECKS.due("the response", t.card.length(), 0);
    }

    private static void promises4To6() {
        waiting();
        length();
        response();
        responseNone();
    }

    private static void waiting() {
        CHECKS.sentence("4: How many bytes the input has");
        AppletFirewall x = new AppletFirewall();
        CHECKS.due("none", x.waiting(), 0);
        for (int n = 1; n <= 24; n++) {
            x.put(5, 1);
            CHECKS.due("so many", x.waiting(), n);
        }
        x.put(5, 1);
        CHECKS.due("full", x.waiting(), 24);
        x.reset();
        CHECKS.due("after reset", x.waiting(), 0);
        CHECKS.due("when off", Terminal.cutOff().card.waiting(), 0);
    }

    private static void length() {
        CHECKS.sentence("5: How many bytes the response has");
        Terminal t = Terminal.loggedIn(3);
        for (int le = 1; le <= 16; le++) {
            t.read(0, le);
            CHECKS.due("of " + le, t.card.length(), le);
        }
        t.card.put(1, 1);
        CHECKS.due("put leaves it", t.card.length(), 16);
        t.card.tear(5);
        CHECKS.due("tear leaves it", t.card.length(), 16);
        t.card.reset();
        CHECKS.due("after reset", t.card.length(), 0);
        CHECKS.due("when off", Terminal.cutOff().card.length(), 0);
    }

    private static void response() {
        CHECKS.sentence("6: Byte i of the response (0 .. 255), from 0 on");
        Terminal t = Terminal.loggedIn(3);
        t.update(0, Terminal.row(240, 16));
        t.update(0, 0, 127, 128);
        t.read(0, 16);
        CHECKS.due("all", t.responseText(), "[0, 127, 128, 243, 244, 245, 246, 247, 248, 249, 250, 251, 252, 253, 254, 255]");
        CHECKS.due("the first again", t.card.response(0), 0);
        CHECKS.due("the last again", t.card.response(15), 255);
    }

    private static void responseNone() {
        CHECKS.sentence("6: NONE when there is none");
        Terminal t = Terminal.loggedIn(3);
        dueNoResponse("of a command without one", t, 0);
        t.read(0, 16);
        dueNoResponse("behind the longest", t, 16);
        t.read(15, 1);
        CHECKS.due("the only one", t.card.response(0), 0);
        dueNoResponse("behind the shortest", t, 1);
        t.card.reset();
        dueNoResponse("after reset", t, 0);
        dueNoResponse("when off", Terminal.cutOff(), 0);
        dueNoResponse("of a new object", new Terminal(), 0);
    }

    private static void dueNoResponse(String what, Terminal t, int from) {
        for (int i : FAR) {
            CHECKS.due(what + ": " + i, t.card.response(i), NONE);
        }
        for (int i = from; i < 20; i++) {
            CHECKS.due(what + ": " + i, t.card.response(i), NONE);
        }
    }

    private static void promise7() {
        tearCounts();
        tearBoundaries();
        tearOnce();
        tearLatest();
        tearWhenOff();
        tearOutlivesReset();
        tearWrongNumber();
        tearAfterForty();
    }

    private static void tearCounts() {
        CHECKS.sentence("7: n writes more will be done, and the next one fails");
        for (int n = 0; n <= 65; n++) {
            Terminal t = Terminal.loggedIn(0);
            CHECKS.due("tear " + n, t.card.tear(n), true);
            t.begin();
            t.commit();
            t.read(0, 16);
            CHECKS.due("what does not write goes on", t.card.failures(), 0);
            CHECKS.due("65 writes, torn at " + n, t.update(0, Terminal.row(1, 16)), n < 65 ? OFF : DONE);
            CHECKS.due("writes, torn at " + n, t.card.writes(), 2 + n);
        }
    }

    private static void tearBoundaries() {
        CHECKS.sentence("7: n is 0 .. 1000");
        Terminal t = Terminal.loggedIn(0);
        CHECKS.due("tear 1000", t.card.tear(1000), true);
        for (int i = 0; i < 15; i++) {
            CHECKS.due("update " + i, t.update(0, Terminal.row(i, 16)), DONE);
        }
        CHECKS.due("975 of the 1000", t.card.writes(), 977);
        CHECKS.due("the 1001st fails", t.update(0, Terminal.row(0, 16)), OFF);
        CHECKS.due("1000 were done", t.card.writes(), 1002);
        CHECKS.due("tear 0", t.card.tear(0), true);
        CHECKS.due("the first fails", t.card.reset(), OFF);
        CHECKS.due("none was done", t.card.writes(), 1002);
    }

    private static void tearOnce() {
        CHECKS.sentence("7: then nothing is armed");
        Terminal t = Terminal.cutOff();
        t.card.reset();
        t.logIn(0);
        for (int i = 0; i < 20; i++) {
            CHECKS.due("update " + i, t.update(0, Terminal.row(i, 16)), DONE);
        }
        CHECKS.due("failures", t.card.failures(), 1);
    }

    private static void tearLatest() {
        CHECKS.sentence("7: Only the latest call counts");
        Terminal t = Terminal.loggedIn(0);
        t.card.tear(0);
        t.card.tear(3);
        CHECKS.due("a later one that is longer", t.verify(0, 0), DONE);
        t.card.tear(1000);
        t.card.tear(1);
        CHECKS.due("a later one that is shorter", t.verify(0, 0), OFF);
        CHECKS.due("writes", t.card.writes(), 2 + 2 + 1);
        t.card.reset();
        CHECKS.due("the earlier ones are gone", t.logIn(0), DONE);
        CHECKS.due("failures", t.card.failures(), 1);
    }

    private static void tearWhenOff() {
        CHECKS.sentence("7: it works also when the card is off");
        Terminal t = Terminal.cutOff();
        CHECKS.due("tear", t.card.tear(1), true);
        CHECKS.due("still off", t.card.session(), OFF);
        CHECKS.due("reset writes nothing here", t.card.reset(), 0);
        t.select(0);
        CHECKS.due("it counts", t.verify(0, 0), OFF);
        CHECKS.due("one write was done", t.card.writes(), 3);
        CHECKS.due("failures", t.card.failures(), 2);
    }

    private static void tearOutlivesReset() {
        CHECKS.sentence("7: n writes more will be done, whatever is called meanwhile");
        Terminal t = Terminal.withNotes(2);
        t.card.tear(4);
        CHECKS.due("reset takes three", t.card.reset(), 2);
        CHECKS.due("reset takes none", t.card.reset(), 0);
        t.select(0);
        CHECKS.due("one more, and the next one fails", t.verify(0, 0), OFF);
        CHECKS.due("writes", t.card.writes(), 2 + 8 + 4);
    }

    private static void tearWrongNumber() {
        CHECKS.sentence("7: false, changing nothing, when n is not 0 .. 1000");
        int[] wrong = {Integer.MIN_VALUE, -1000, -1, 1001, 2000, Integer.MAX_VALUE};
        for (int n : wrong) {
            Terminal t = Terminal.loggedIn(0);
            CHECKS.due("tear " + n, t.card.tear(n), false);
            CHECKS.due("nothing is armed by it", t.verify(0, 0), DONE);
            t.card.tear(1);
            CHECKS.due("tear " + n + " when armed", t.card.tear(n), false);
            CHECKS.due("it stays armed", t.verify(0, 0), OFF);
            CHECKS.due("by the same number", t.card.writes(), 5);
            CHECKS.due("tear " + n + " when off", t.card.tear(n), false);
            CHECKS.due("still off", t.card.session(), OFF);
        }
    }

    private static void tearAfterForty() {
        CHECKS.sentence("7: false, changing nothing, when the power failed 40 times already");
        Terminal t = Terminal.withNotes(1);
        for (int i = 1; i <= 40; i++) {
            CHECKS.due("tear before failure " + i, t.card.tear(0), true);
            CHECKS.due("failure " + i, t.card.reset(), OFF);
            CHECKS.due("failures", t.card.failures(), i);
        }
        CHECKS.due("tear 0 when off", t.card.tear(0), false);
        CHECKS.due("the power holds now", t.card.reset(), 1);
        CHECKS.due("tear 0 when on", t.card.tear(0), false);
        CHECKS.due("tear 1000", t.card.tear(1000), false);
        CHECKS.due("tear -1", t.card.tear(-1), false);
        CHECKS.due("nothing is armed", t.logIn(0), DONE);
        CHECKS.due("failures stay", t.card.failures(), 40);
    }

    private static void promise8() {
        resetSwitchesOff();
        resetSwitchesOn();
        resetUndoes();
        resetUndoesNothing();
        resetAnswersNotes();
        resetCutOff();
    }

    private static void resetSwitchesOff() {
        CHECKS.sentence("8: Switches the card off, if it is on");
        Terminal t = Terminal.withNotes(0);
        t.read(0, 2);
        t.card.put(1, 5);
        t.card.reset();
        CHECKS.due("the session is gone", t.card.session(), NONE);
        CHECKS.due("the input is gone", t.card.waiting(), 0);
        CHECKS.due("the response is gone", t.card.length(), 0);
        CHECKS.due("it is no failure", t.card.failures(), 0);
    }

    private static void resetSwitchesOn() {
        CHECKS.sentence("8: and on");
        Terminal t = Terminal.cutOff();
        CHECKS.due("reset when off", t.card.reset(), 0);
        CHECKS.due("on again", t.card.session(), NONE);
        CHECKS.due("it works", t.logIn(0), DONE);
        CHECKS.due("reset when on", t.card.reset(), 0);
        CHECKS.due("on still", t.card.session(), NONE);
    }

    private static void resetUndoes() {
        CHECKS.sentence("8: then, if COUNT is not 0, the journal is undone");
        Terminal t = Terminal.loggedIn(1);
        t.update(3, 7, 8);
        t.begin();
        t.update(4, 90, 91, 92);
        t.update(3, 80);
        int before = t.card.writes();
        t.card.reset();
        CHECKS.due("four bytes and COUNT", t.card.writes(), before + 5);
        CHECKS.due("data", t.dataText(1), "[0, 0, 0, 7, 8, 0, 0, 0, 0, 0, 0, 0, 0, 0, 0, 0]");
        CHECKS.due("pending", t.card.pending(), 0);
        t.select(1);
        CHECKS.due("no transaction is open", t.commit(), 27013);
    }

    private static void resetUndoesNothing() {
        CHECKS.sentence("8: if COUNT is not 0");
        Terminal t = Terminal.withNotes(0);
        t.card.tear(0);
        CHECKS.due("reset with an open transaction without notes", t.card.reset(), 0);
        CHECKS.due("no write", t.card.writes(), 2);
        CHECKS.due("no failure", t.card.failures(), 0);
        Terminal u = Terminal.withNotes(4);
        u.commit();
        u.card.tear(0);
        CHECKS.due("reset after the end", u.card.reset(), 0);
        CHECKS.due("no write then", u.card.writes(), 2 + 16 + 1);
    }

    private static void resetAnswersNotes() {
        CHECKS.sentence("8: Answers how many notes were undone");
        for (int notes = 0; notes <= 20; notes++) {
            Terminal t = Terminal.withNotes(notes);
            CHECKS.due("of " + notes, t.card.reset(), notes);
            CHECKS.due("once more", t.card.reset(), 0);
            CHECKS.due("data", t.dataText(0), new Terminal().dataText(0));
        }
    }

    private static void resetCutOff() {
        CHECKS.sentence("8: OFF when the power fails meanwhile");
        for (int notes = 1; notes <= 20; notes++) {
            for (int n = 0; n <= notes; n++) {
                Terminal t = Terminal.withNotes(notes);
                t.card.tear(n);
                CHECKS.due("reset of " + notes + " notes cut off at " + n, t.card.reset(), OFF);
                CHECKS.due("off", t.card.session(), OFF);
                CHECKS.due("it begins anew", t.card.reset(), notes);
                CHECKS.due("all is back", t.dataText(0), new Terminal().dataText(0));
                CHECKS.due("writes", t.card.writes(), 2 + 4 * notes + n + notes + 1);
            }
            Terminal spared = Terminal.withNotes(notes);
            spared.card.tear(notes + 1);
            CHECKS.due("reset of " + notes + " notes, not cut off", spared.card.reset(), notes);
        }
        Terminal u = Terminal.withNotes(1);
        u.card.tear(1);
        u.card.reset();
        CHECKS.due("put then", u.card.put(1, 1), false);
        CHECKS.due("run then", u.card.run(), OFF);
        CHECKS.due("data then", u.card.data(0, 0), OFF);
        CHECKS.due("pending then", u.card.pending(), OFF);
    }

    private static void promises9And10() {
        writes();
        writesOfAWholeLife();
        failures();
    }

    private static void writes() {
        CHECKS.sentence("9: The number of writes that were done since the beginning");
        Terminal t = new Terminal();
        CHECKS.due("none", t.card.writes(), 0);
        t.select(0);
        CHECKS.due("select", t.card.writes(), 0);
        t.verify(9, 9);
        CHECKS.due("a wrong secret", t.card.writes(), 1);
        t.verify(0, 0);
        CHECKS.due("the right secret", t.card.writes(), 3);
        t.update(0, 1, 2, 3);
        CHECKS.due("update", t.card.writes(), 16);
        t.card.tear(2);
        t.update(0, 1);
        CHECKS.due("the failed one was not done", t.card.writes(), 18);
        t.card.reset();
        CHECKS.due("reset does not begin anew", t.card.writes(), 18);
    }

    private static void writesOfAWholeLife() {
        CHECKS.sentence("An object is used for at most 512 calls after it has been made");
        // Four calls log in, and each update of 21 bytes takes four.
        Terminal t = Terminal.loggedIn(2);
        for (int i = 0; i < 126; i++) {
            t.update(0, Terminal.row(i, 16));
        }
        CHECKS.due("call 509", t.card.writes(), 2 + 126 * 65);
        CHECKS.due("call 510", t.card.data(2, 15), 140);
        CHECKS.due("call 511", t.card.session(), 10);
        CHECKS.due("call 512", t.card.reset(), 0);
    }

    private static void failures() {
        CHECKS.sentence("10: How many times the power failed");
        Terminal t = Terminal.loggedIn(0);
        t.card.tear(0);
        CHECKS.due("armed only", t.card.failures(), 0);
        t.verify(0, 0);
        CHECKS.due("one, when off", t.card.failures(), 1);
        t.card.run();
        t.card.put(1, 1);
        CHECKS.due("calls when off are none", t.card.failures(), 1);
        t.card.reset();
        CHECKS.due("one, when on", t.card.failures(), 1);
    }

    private static void promise11Data() {
        CHECKS.sentence("11: Data byte i of an applet (0 .. 255) as it is in the memory now");
        Terminal t = Terminal.loggedIn(2);
        t.update(0, 255);
        t.update(15, 128);
        CHECKS.due("first", t.card.data(2, 0), 255);
        CHECKS.due("last", t.card.data(2, 15), 128);
        t.begin();
        t.update(0, 4);
        CHECKS.due("in a transaction", t.card.data(2, 0), 4);
        t.abort();
        CHECKS.due("after it", t.card.data(2, 0), 255);

        CHECKS.sentence("11: NONE when applet is not 0 .. 3 or i not 0 .. 15; otherwise OFF when the card is off");
        AppletFirewall off = Terminal.cutOff().card;
        int[] some = {Integer.MIN_VALUE, -1, 0, 3, 4, 15, 16, 64, 256, Integer.MAX_VALUE};
        for (int applet : some) {
            for (int i : some) {
                boolean isThere = applet >= 0 && applet <= 3 && i >= 0 && i <= 15;
                String what = "data " + applet + ", " + i;
                CHECKS.due(what, new AppletFirewall().data(applet, i), isThere ? 0 : NONE);
                CHECKS.due(what + " when off", off.data(applet, i), isThere ? OFF : NONE);
            }
        }
    }

    private static void promise12Tries() {
        CHECKS.sentence("12: The tries of an applet");
        Terminal t = new Terminal();
        t.select(3);
        for (int left = 2; left >= 0; left--) {
            t.verify(1, 1);
            CHECKS.due("one less", t.card.tries(3), left);
        }
        CHECKS.due("another applet's", t.card.tries(2), 3);

        CHECKS.sentence("12: NONE when applet is not 0 .. 3; otherwise OFF when the card is off");
        AppletFirewall off = Terminal.cutOff().card;
        int[] wrong = {Integer.MIN_VALUE, -1, 4, 256, Integer.MAX_VALUE};
        for (int w : wrong) {
            CHECKS.due("tries " + w, t.card.tries(w), NONE);
            CHECKS.due("tries " + w + " when off", off.tries(w), NONE);
        }
        for (int applet = 0; applet < 4; applet++) {
            CHECKS.due("tries " + applet + " when off", off.tries(applet), OFF);
        }
    }

    private static void promise13Share() {
        CHECKS.sentence("13: its bytes, the first one plus 256 * offset + 65536 * length + 16777216 * mode");
        Terminal t = Terminal.loggedIn(3);
        t.grant(7, 2, 15, 1, 1);
        CHECKS.due("the last one", t.card.share(7), 15 + 256 * 15 + 65536 + 16777216);
        t.grant(0, 0, 0, 16, 0);
        CHECKS.due("the first one", t.card.share(0), 13 + 65536 * 16);
        CHECKS.due("one between", t.card.share(3), 0);
        t.revoke(7);
        CHECKS.due("not in use, as it is", t.card.share(7), 256 * 15 + 65536 + 16777216);

        CHECKS.sentence("13: A share as it is in the memory now");
        t.begin();
        t.revoke(0);
        CHECKS.due("in a transaction", t.card.share(0), 65536 * 16);
        t.abort();
        CHECKS.due("after it", t.card.share(0), 13 + 65536 * 16);

        CHECKS.sentence("13: NONE when share is not 0 .. 7; otherwise OFF when the card is off");
        AppletFirewall off = Terminal.cutOff().card;
        int[] wrong = {Integer.MIN_VALUE, -1, 8, 9, 256, Integer.MAX_VALUE};
        for (int w : wrong) {
            CHECKS.due("share " + w, t.card.share(w), NONE);
            CHECKS.due("share " + w + " when off", off.share(w), NONE);
        }
        for (int share = 0; share < 8; share++) {
            CHECKS.due("share " + share + " when off", off.share(share), OFF);
        }
    }

    private static void promise14Pending() {
        CHECKS.sentence("14: COUNT");
        for (int notes = 0; notes <= 20; notes++) {
            Terminal t = Terminal.withNotes(notes);
            CHECKS.due("of " + notes, t.card.pending(), notes);
            t.commit();
            CHECKS.due("ended", t.card.pending(), 0);
        }
        Terminal u = Terminal.loggedIn(0);
        u.update(0, 1, 2, 3);
        CHECKS.due("settled at once", u.card.pending(), 0);

        CHECKS.sentence("14: OFF when the card is off");
        CHECKS.due("nothing was pending", Terminal.cutOff().card.pending(), OFF);
        Terminal v = Terminal.withNotes(5);
        v.card.tear(0);
        v.commit();
        CHECKS.due("five are pending", v.card.pending(), OFF);
    }

    private static void promise15Session() {
        CHECKS.sentence("15: OFF when the card is off");
        CHECKS.due("cut off", Terminal.cutOff().card.session(), OFF);

        CHECKS.sentence("15: NONE when no applet is selected");
        Terminal t = new Terminal();
        CHECKS.due("new", t.card.session(), NONE);
        t.select(4);
        CHECKS.due("after a refused select", t.card.session(), NONE);

        CHECKS.sentence("15: the selected applet, plus 8 if it is verified, plus 16 if a transaction is open");
        for (int applet = 0; applet < 4; applet++) {
            t.select(applet);
            CHECKS.due("selected", t.card.session(), applet);
            t.begin();
            CHECKS.due("open, not verified", t.card.session(), applet + 16);
            t.verify(0, 0);
            CHECKS.due("open and verified", t.card.session(), applet + 24);
            t.commit();
            CHECKS.due("verified", t.card.session(), applet + 8);
            t.verify(0, 1);
            CHECKS.due("verified no more", t.card.session(), applet);
        }
    }
}
