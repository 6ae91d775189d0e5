/** 'Terms' at COMMANDS: the shapes of the input, and the order of the statuses. */
final class InputTest {
    private static final int NONE = AppletFirewall.NONE;
    private static final int DONE = Terminal.DONE;
    private static final Checks CHECKS = new Checks();

    /** Instruction, shape, Lc (0 for any), highest P1, highest P2, 1 if marked: as the document tells them. */
    private static final int[][] INSTRUCTIONS = {
        {164, 3, 1, 0, 0, 0}, {32, 3, 2, 0, 0, 0}, {36, 3, 2, 0, 0, 1}, {44, 1, 0, 3, 0, 1},
        {176, 2, 0, 0, 255, 1}, {214, 3, 0, 0, 255, 1}, {112, 1, 0, 0, 0, 0}, {114, 1, 0, 1, 0, 0},
        {226, 3, 4, 7, 0, 1}, {228, 1, 0, 7, 0, 1}, {178, 2, 0, 7, 255, 1}, {220, 3, 0, 7, 255, 1}};

    public static void main(String[] args) {
        longestInput();
        shape1();
        shape2();
        shape3();
        shape4();
        badlyFormed();
        everyLengthAndFifthByte();
        wrongClass();
        noSuchInstruction();
        wrongShape();
        wrongLc();
        wrongP1();
        wrongP2();
        nothingSelected();
        notVerified();
        eachStatusGoesBeforeTheNext();
        CHECKS.end();
    }

    /** All other bytes are 0, but for Le, which is 1. */
    private static int[] command(int code, int p1, int p2, int shape, int lc) {
        int[] lengths = {0, 4, 5, 5 + lc, 6 + lc};
        int[] bytes = new int[lengths[shape]];
        bytes[0] = 128;
        bytes[1] = code;
        bytes[2] = p1;
        bytes[3] = p2;
        if (shape == 2) {
            bytes[4] = 1;
        } else if (shape > 2) {
            bytes[4] = lc;
        }
        return bytes;
    }

    private static int[] command(int[] instruction, int p1, int p2) {
        int lc = instruction[2] == 0 ? 1 : instruction[2];
        return command(instruction[0], p1, p2, instruction[1], lc);
    }

    private static void longestInput() {
        CHECKS.sentence("The INPUT is a list of at most 24 bytes");
        Terminal t = Terminal.loggedIn(0);
        CHECKS.due("24 bytes are taken", t.putAll(command(214, 0, 0, 3, 19)), true);
        CHECKS.due("they are a command", t.card.run(), 27392);
        CHECKS.due("25 bytes are not", t.putAll(command(214, 0, 0, 3, 20)), false);
        CHECKS.due("what was taken is badly formed", t.card.run(), 26368);
        CHECKS.due("24 bytes with Le", t.send(command(214, 0, 0, 4, 18)), 26368);
        CHECKS.due("24 bytes with Le, without an instruction", t.send(command(1, 0, 0, 4, 18)), 27904);
        CHECKS.due("the longest that can be done", t.send(command(214, 0, 0, 3, 16)), DONE);
    }

    private static void shape1() {
        CHECKS.sentence("CLASS, INSTRUCTION, P1, P2, and behind these nothing (shape 1)");
        Terminal t = new Terminal();
        t.select(0);
        CHECKS.due("three bytes", t.send(128, 112, 0), 26368);
        CHECKS.due("four bytes", t.send(128, 112, 0, 0), DONE);
        CHECKS.due("five bytes", t.send(128, 114, 0, 0, 0), 26368);
    }

    private static void shape2() {
        CHECKS.sentence("or one byte Le (shape 2; 0 means 256)");
        Terminal t = Terminal.loggedIn(0);
        CHECKS.due("Le 1", t.read(0, 1), DONE);
        CHECKS.due("one byte", t.card.length(), 1);
        CHECKS.due("Le 16", t.read(0, 16), DONE);
        CHECKS.due("sixteen bytes", t.card.length(), 16);
        CHECKS.due("Le 17", t.read(0, 17), 27392);
        CHECKS.due("Le 255", t.read(0, 255), 27392);
        CHECKS.due("Le 0", t.read(0, 0), 27392);
        CHECKS.due("no byte", t.card.length(), 0);
        CHECKS.due("Le 0 behind the data", t.read(16, 0), 27392);
        CHECKS.due("six bytes", t.send(128, 176, 0, 0, 1, 1), 26368);
        t.grant(0, 1, 0, 16, 0);
        t.logIn(1);
        CHECKS.due("Le 0 of a share", t.readShared(0, 0, 0), 27392);
    }

    private static void shape3() {
        CHECKS.sentence("or one byte Lc, not 0, and so many bytes (shape 3)");
        for (int lc = 1; lc <= 16; lc++) {
            Terminal t = Terminal.loggedIn(0);
            CHECKS.due("Lc " + lc, t.send(Terminal.withPayload(214, 0, 0, Terminal.row(1, lc))), DONE);
            CHECKS.due("its last byte", t.card.data(0, lc - 1), lc);
            CHECKS.due("pending", t.card.pending(), 0);
        }
        Terminal u = Terminal.loggedIn(0);
        CHECKS.due("Lc 0 and no byte is Le", u.send(128, 214, 0, 0, 0), 26368);
        CHECKS.due("Lc 0 and no byte, no instruction", u.send(128, 1, 0, 0, 0), 27904);
        CHECKS.due("Lc 0 and a byte", u.send(128, 1, 0, 0, 0, 7), 26368);
        CHECKS.due("Lc 0 and two bytes", u.send(128, 1, 0, 0, 0, 7, 7), 26368);
        CHECKS.due("one byte too few", u.send(128, 1, 0, 0, 3, 7, 7), 26368);
        CHECKS.due("no byte is Le", u.send(128, 1, 0, 0, 3), 27904);
    }

    private static void shape4() {
        CHECKS.sentence("or the same and one byte Le behind them (shape 4; none of the instructions has it)");
        Terminal t = Terminal.loggedIn(0);
        CHECKS.due("well formed", t.send(128, 1, 0, 0, 2, 7, 7, 0), 27904);
        CHECKS.due("well formed, another Le", t.send(128, 1, 0, 0, 2, 7, 7, 255), 27904);
        CHECKS.due("two bytes too many", t.send(128, 1, 0, 0, 2, 7, 7, 0, 0), 26368);
        for (int[] i : INSTRUCTIONS) {
            int lc = i[2] == 0 ? 1 : i[2];
            CHECKS.due(i[0] + " in shape 4", t.send(command(i[0], 0, 0, 4, lc)), 26368);
        }
        CHECKS.due("nothing was done", t.card.session(), 8);
        CHECKS.due("nothing was written", t.card.writes(), 2);
    }

    private static void badlyFormed() {
        CHECKS.sentence("26368 the input is badly formed");
        int[][] inputs = {{}, {128}, {128, 164}, {128, 164, 0}, {128, 164, 0, 0, 0, 1}, {128, 164, 0, 0, 0, 0},
            {128, 164, 0, 0, 2, 1}, {128, 164, 0, 0, 1, 1, 1, 1}, {128, 164, 0, 0, 255, 1}, {0, 0, 0}};
        for (int[] input : inputs) {
            CHECKS.refused(input.length + " bytes", Terminal.withNotes(1), t -> t.send(input), 26368);
        }
    }

    private static void everyLengthAndFifthByte() {
        CHECKS.sentence("What is none of these is BADLY FORMED");
        for (int length = 0; length <= 24; length++) {
            for (int fifth = 0; fifth < 256; fifth++) {
                int[] bytes = new int[length];
                if (length > 0) {
                    bytes[0] = 128;
                }
                if (length > 4) {
                    bytes[4] = fifth;
                }
                boolean well = length == 4 || length == 5
                    || length > 5 && fifth > 0 && (fifth == length - 5 || fifth == length - 6);
                String what = length + " bytes, the fifth " + fifth;
                CHECKS.due(what, new Terminal().send(bytes), well ? 27904 : 26368);
            }
        }
    }

    private static void wrongClass() {
        CHECKS.sentence("28160 CLASS is not 128");
        for (int c = 0; c < 256; c++) {
            Terminal t = new Terminal();
            CHECKS.due("class " + c, t.send(c, 164, 0, 0, 1, 2), c == 128 ? DONE : 28160);
            CHECKS.due("session", t.card.session(), c == 128 ? 2 : NONE);
        }
    }

    private static void noSuchInstruction() {
        CHECKS.sentence("27904 there is no such instruction");
        for (int code = 0; code < 256; code++) {
            boolean known = false;
            for (int[] i : INSTRUCTIONS) {
                known |= i[0] == code;
            }
            // Shape 4 fits no instruction, so the known ones answer 26368.
            int status = Terminal.loggedIn(0).send(command(code, 0, 0, 4, 1));
            CHECKS.due("instruction " + code, status, known ? 26368 : 27904);
        }
    }

    private static void wrongShape() {
        CHECKS.sentence("26368 its shape is not as said");
        for (int[] i : INSTRUCTIONS) {
            for (int shape = 1; shape <= 4; shape++) {
                int[] bytes = command(i[0], 0, 0, shape, 1);
                if (shape != i[1]) {
                    CHECKS.refused(i[0] + " in shape " + shape, Terminal.loggedIn(0), t -> t.send(bytes), 26368);
                }
            }
        }
    }

    private static void wrongLc() {
        CHECKS.sentence("26368 its Lc is not as said");
        for (int[] i : INSTRUCTIONS) {
            for (int lc = 1; lc <= 19 && i[1] == 3 && i[2] != 0; lc++) {
                int[] bytes = command(i[0], 0, 0, 3, lc);
                if (lc != i[2]) {
                    CHECKS.refused(i[0] + " with Lc " + lc, Terminal.loggedIn(0), t -> t.send(bytes), 26368);
                }
            }
        }
    }

    private static void wrongP1() {
        CHECKS.sentence("27270 P1 is not as said (0 if nothing is said)");
        for (int[] i : INSTRUCTIONS) {
            for (int p1 = 0; p1 < 256; p1++) {
                int status = Terminal.loggedIn(0).send(command(i, p1, 0));
                CHECKS.due(i[0] + " with P1 " + p1, status == 27270, p1 > i[3]);
            }
            int[] bytes = command(i, i[3] + 1, 0);
            CHECKS.refused(i[0] + " with P1 too large by one", Terminal.withNotes(1), t -> t.send(bytes), 27270);
        }
    }

    private static void wrongP2() {
        CHECKS.sentence("27270 P2 is not as said (0 if nothing is said)");
        for (int[] i : INSTRUCTIONS) {
            for (int p2 = 0; p2 < 256; p2++) {
                int status = Terminal.loggedIn(0).send(command(i, 0, p2));
                CHECKS.due(i[0] + " with P2 " + p2, status == 27270, p2 > i[4]);
            }
            int[] bytes = command(i, 0, 1);
            if (i[4] == 0) {
                CHECKS.refused(i[0] + " with P2 too large by one", Terminal.withNotes(1), t -> t.send(bytes), 27270);
            }
        }
    }

    private static void nothingSelected() {
        CHECKS.sentence("27013 no applet is selected (not for 164)");
        for (int[] i : INSTRUCTIONS) {
            for (int p1 = 0; p1 <= i[3]; p1++) {
                int[] bytes = command(i, p1, i[4]);
                if (i[0] == 164) {
                    CHECKS.due("164", new Terminal().send(bytes), DONE);
                } else {
                    CHECKS.refused(i[0] + " with nothing selected", new Terminal(), t -> t.send(bytes), 27013);
                }
            }
        }
    }

    private static void notVerified() {
        CHECKS.sentence("27010 the selected applet is not verified (for those marked *)");
        for (int[] i : INSTRUCTIONS) {
            Terminal t = new Terminal();
            t.select(0);
            int[] bytes = command(i, 0, 0);
            if (i[5] == 1) {
                CHECKS.refused(i[0] + " not verified", t, x -> x.send(bytes), 27010);
            } else {
                CHECKS.due(i[0] + " is not marked", t.send(bytes) == 27010, false);
            }
        }
        Terminal u = Terminal.loggedIn(0);
        u.verify(9, 9);
        CHECKS.due("verified no more", u.read(0, 1), 27010);
        u.verify(0, 0);
        u.select(0);
        CHECKS.due("selected anew", u.read(0, 1), 27010);
    }

    private static void eachStatusGoesBeforeTheNext() {
        CHECKS.sentence("A command answers a STATUS, by the first of these that holds");
        Terminal t = new Terminal();
        CHECKS.due("badly formed, wrong class", t.send(0, 164, 0, 0, 3, 1), 26368);
        CHECKS.due("badly formed, no instruction", t.send(128, 1, 0, 0, 3, 1), 26368);
        CHECKS.due("wrong class, no instruction", t.send(127, 1, 0, 0), 28160);
        for (int[] i : INSTRUCTIONS) {
            int wrongShape = i[1] == 1 ? 2 : 1;
            int[] all = command(i[0], 255, 255, wrongShape, 1);
            CHECKS.due(i[0] + ", wrong shape and parameters, nothing selected", new Terminal().send(all), 26368);
            all[0] = 129;
            CHECKS.due(i[0] + ", wrong class and shape", new Terminal().send(all), 28160);
            CHECKS.due(i[0] + ", wrong P1, nothing selected", new Terminal().send(command(i, i[3] + 1, 0)), 27270);
            Terminal u = new Terminal();
            u.select(3);
            CHECKS.due(i[0] + ", wrong P1, not verified", u.send(command(i, i[3] + 1, 0)), 27270);
        }
        int[] none = command(1, 255, 255, 4, 1);
        CHECKS.due("no instruction, nothing selected", new Terminal().send(none), 27904);
        notVerifiedGoesBefore();
    }

    /** Each of these would be refused for what is said at the instruction, were the applet verified. */
    private static void notVerifiedGoesBefore() {
        Command[] wrong = {t -> t.read(16, 1), t -> t.update(16, 1), t -> t.grant(0, 9, 0, 0, 2), t -> t.revoke(0),
            t -> t.readShared(0, 16, 1), t -> t.updateShared(0, 16, 1), t -> t.unblock(1)};
        for (int i = 0; i < wrong.length; i++) {
            Terminal t = new Terminal();
            t.select(1);
            CHECKS.refused("not verified, wrong command " + i, t, wrong[i], 27010);
        }
    }
}
