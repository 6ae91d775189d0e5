/**
 * A card that runs four applets behind a firewall: commands come as bytes, data lie in a permanent
 * memory that is written byte by byte, changes are made whole or not at all although the power may
 * fail before any write, secrets have a counter of tries, and one applet's data are open to another
 * one only as far as a share says.
 */
public final class AppletFirewall {
    /** The card is off. */
    public static final int OFF = -1;
    /** There is no such thing. */
    public static final int NONE = -2;

    private static final int DONE = 36864;
    private static final int TRIES_LEFT = 25536;
    private static final int WRONG_LENGTH = 26368;
    private static final int NOT_ALLOWED = 27010;
    private static final int BLOCKED = 27011;
    private static final int NOT_NOW = 27013;
    private static final int WRONG_GRANT = 27264;
    private static final int NO_SUCH_APPLET = 27266;
    private static final int JOURNAL_FULL = 27268;
    private static final int WRONG_PARAMETER = 27270;
    private static final int NO_SUCH_SHARE = 27272;
    private static final int SHARE_IN_USE = 27273;
    private static final int BEYOND_END = 27392;
    private static final int NO_SUCH_INSTRUCTION = 27904;
    private static final int WRONG_CLASS = 28160;

    private static final int CARD_CLASS = 128;
    private static final int APPLETS = 4;
    private static final int DATA_BYTES = 16;
    private static final int SECRET_BYTES = 2;
    private static final int ALL_TRIES = 3;
    private static final int MOST_FAILURES = 40;
    private static final int LONGEST_FUSE = 1000;

    private static final int SHARES = 8;
    private static final int SHARE_BYTES = 4;
    private static final int SHARE_OFFSET = 1;
    private static final int SHARE_LENGTH = 2;
    private static final int SHARE_MODE = 3;

    private final Memory memory;
    private final Input input;
    private final int[] answer;
    private final int[] grantRow;
    private int answerLength;
    private boolean on;
    private int selected;
    private boolean verified;
    private boolean open;

    public AppletFirewall() {
        memory = new Memory();
        input = new Input();
        answer = new int[DATA_BYTES];
        grantRow = new int[SHARE_BYTES];
        selected = NONE;
        on = true;
    }

    public boolean put(long bytes, int n) {
        return on && input.append(bytes, n);
    }

    public int run() {
        if (!on) {
            return OFF;
        }
        answerLength = 0;
        Instruction asked = Instruction.withCode(input.instruction());
        int status = admit(asked);
        if (status == DONE) {
            status = perform(asked);
        }
        input.clear();
        if (status == OFF) {
            switchOff();
        }
        return status;
    }

    public int waiting() {
        return input.size();
    }

    public int length() {
        return answerLength;
    }

    public int response(int i) {
        return i < 0 || i >= answerLength ? NONE : answer[i];
    }

    public boolean tear(int n) {
        if (n < 0 || n > LONGEST_FUSE || memory.failed() >= MOST_FAILURES) {
            return false;
        }
        memory.arm(n);
        return true;
    }

    public int reset() {
        switchOff();
        on = true;
        int notes = memory.count();
        if (!memory.undo()) {
            switchOff();
            return OFF;
        }
        return notes;
    }

    public int writes() {
        return memory.written();
    }

    public int failures() {
        return memory.failed();
    }

    public int data(int applet, int i) {
        if (!isApplet(applet) || i < 0 || i >= DATA_BYTES) {
            return NONE;
        }
        return on ? memory.at(dataPlace(applet, i)) : OFF;
    }

    public int tries(int applet) {
        if (!isApplet(applet)) {
            return NONE;
        }
        return on ? memory.at(triesPlace(applet)) : OFF;
    }

    public int share(int share) {
        if (share < 0 || share >= SHARES) {
            return NONE;
        }
        if (!on) {
            return OFF;
        }
        int packed = 0;
        for (int i = SHARE_BYTES - 1; i >= 0; i--) {
            packed = 256 * packed + shareByte(share, i);
        }
        return packed;
    }

    public int pending() {
        return on ? memory.count() : OFF;
    }

    public int session() {
        if (!on) {
            return OFF;
        }
        if (selected == NONE) {
            return NONE;
        }
        return selected + (verified ? 8 : 0) + (open ? 16 : 0);
    }

    /** Forgets all that does not lie in the permanent memory. */
    private void switchOff() {
        on = false;
        selected = NONE;
        verified = false;
        open = false;
        answerLength = 0;
        input.clear();
    }

    /** DONE if nothing that is common to all instructions stands against this one. */
    private int admit(Instruction asked) {
        if (input.shape() == Input.BADLY_FORMED) {
            return WRONG_LENGTH;
        }
        if (input.cardClass() != CARD_CLASS) {
            return WRONG_CLASS;
        }
        if (asked == Instruction.UNKNOWN) {
            return NO_SUCH_INSTRUCTION;
        }
        if (!asked.takesForm(input.shape(), input.lc())) {
            return WRONG_LENGTH;
        }
        if (!asked.takesParameters(input.p1(), input.p2())) {
            return WRONG_PARAMETER;
        }
        if (selected == NONE && asked != Instruction.SELECT) {
            return NOT_NOW;
        }
        if (asked.isGuarded() && !verified) {
            return NOT_ALLOWED;
        }
        return DONE;
    }

    /** Answers the status; OFF if the power failed on the way. */
    private int perform(Instruction asked) {
        switch (asked) {
            case SELECT:
                return select();
            case VERIFY:
                return verify();
            case CHANGE_SECRET:
                return storePayload(secretPlace(selected));
            case UNBLOCK:
                return unblock();
            case READ:
                return read();
            case UPDATE:
                return update();
            case BEGIN:
                return begin();
            case END:
                return end();
            case GRANT:
                return grant();
            case REVOKE:
                return revoke();
            case READ_SHARED:
                return readShared();
            case UPDATE_SHARED:
                return updateShared();
            default:
                return NO_SUCH_INSTRUCTION;
        }
    }

    private int select() {
        int applet = input.payload(0);
        if (!isApplet(applet)) {
            return NO_SUCH_APPLET;
        }
        if (open && !memory.undo()) {
            return OFF;
        }
        open = false;
        selected = applet;
        verified = false;
        return respond(triesPlace(applet), 1);
    }

    private int verify() {
        int place = triesPlace(selected);
        int left = memory.at(place) - 1;
        if (left < 0) {
            return BLOCKED;
        }
        // The try is spent before the secret is looked at, so that no power cut gives it back.
        if (!memory.write(place, left)) {
            return OFF;
        }
        verified = false;
        if (!payloadIsSecret()) {
            return TRIES_LEFT + left;
        }
        if (!memory.write(place, ALL_TRIES)) {
            return OFF;
        }
        verified = true;
        return DONE;
    }

    private boolean payloadIsSecret() {
        int place = secretPlace(selected);
        for (int i = 0; i < SECRET_BYTES; i++) {
            if (memory.at(place + i) != input.payload(i)) {
                return false;
            }
        }
        return true;
    }

    private int unblock() {
        if (selected != 0) {
            return NOT_ALLOWED;
        }
        return doneIf(memory.write(triesPlace(input.p1()), ALL_TRIES));
    }

    private int read() {
        if (input.p2() + input.le() > DATA_BYTES) {
            return BEYOND_END;
        }
        return respond(dataPlace(selected, input.p2()), input.le());
    }

    private int update() {
        if (input.p2() + input.lc() > DATA_BYTES) {
            return BEYOND_END;
        }
        return storePayload(dataPlace(selected, input.p2()));
    }

    private int begin() {
        if (open) {
            return NOT_NOW;
        }
        open = true;
        return DONE;
    }

    private int end() {
        if (!open) {
            return NOT_NOW;
        }
        boolean powered = input.p1() == 0 ? memory.settle() : memory.undo();
        open = false;
        return doneIf(powered);
    }

    private int grant() {
        int client = input.payload(0);
        int offset = input.payload(SHARE_OFFSET);
        int length = input.payload(SHARE_LENGTH);
        int mode = input.payload(SHARE_MODE);
        if (!isApplet(client) || client == selected) {
            return WRONG_GRANT;
        }
        if (length == 0 || offset + length > DATA_BYTES || mode > 1) {
            return WRONG_GRANT;
        }
        int share = input.p1();
        if (ownerOf(share) != NONE) {
            return SHARE_IN_USE;
        }
        grantRow[0] = 1 + APPLETS * selected + client;
        grantRow[SHARE_OFFSET] = offset;
        grantRow[SHARE_LENGTH] = length;
        grantRow[SHARE_MODE] = mode;
        return store(sharePlace(share), grantRow, 0, SHARE_BYTES);
    }

    private int revoke() {
        int share = input.p1();
        if (ownerOf(share) != selected) {
            return NO_SUCH_SHARE;
        }
        grantRow[0] = 0;
        return store(sharePlace(share), grantRow, 0, 1);
    }

    private int readShared() {
        int share = input.p1();
        if (clientOf(share) != selected) {
            return NO_SUCH_SHARE;
        }
        if (input.p2() + input.le() > shareByte(share, SHARE_LENGTH)) {
            return BEYOND_END;
        }
        return respond(sharedPlace(share, input.p2()), input.le());
    }

    private int updateShared() {
        int share = input.p1();
        if (clientOf(share) != selected) {
            return NO_SUCH_SHARE;
        }
        if (shareByte(share, SHARE_MODE) == 0) {
            return NOT_ALLOWED;
        }
        if (input.p2() + input.lc() > shareByte(share, SHARE_LENGTH)) {
            return BEYOND_END;
        }
        return storePayload(sharedPlace(share, input.p2()));
    }

    private int respond(int place, int n) {
        for (int i = 0; i < n; i++) {
            answer[i] = memory.at(place + i);
        }
        answerLength = n;
        return DONE;
    }

    private int storePayload(int place) {
        return store(place, input.row(), Input.PAYLOAD, input.lc());
    }

    private int store(int place, int[] row, int from, int n) {
        // Outside a transaction COUNT is 0 and n at most 16, so only a transaction is ever refused.
        if (memory.count() + n > Memory.MOST_NOTES) {
            return JOURNAL_FULL;
        }
        for (int i = 0; i < n; i++) {
            if (!memory.change(place + i, row[from + i])) {
                return OFF;
            }
        }
        return doneIf(open || memory.settle());
    }

    private static int doneIf(boolean powered) {
        return powered ? DONE : OFF;
    }

    /** NONE if the share is not in use. */
    private int ownerOf(int share) {
        int first = shareByte(share, 0);
        return first == 0 ? NONE : (first - 1) / APPLETS;
    }

    /** NONE if the share is not in use. */
    private int clientOf(int share) {
        int first = shareByte(share, 0);
        return first == 0 ? NONE : (first - 1) % APPLETS;
    }

    private int shareByte(int share, int i) {
        return memory.at(sharePlace(share) + i);
    }

    private int sharedPlace(int share, int offset) {
        return dataPlace(ownerOf(share), shareByte(share, SHARE_OFFSET) + offset);
    }

    private static boolean isApplet(int applet) {
        return applet >= 0 && applet < APPLETS;
    }

    private static int dataPlace(int applet, int offset) {
        return Memory.DATA + DATA_BYTES * applet + offset;
    }

    private static int secretPlace(int applet) {
        return Memory.SECRETS + SECRET_BYTES * applet;
    }

    private static int triesPlace(int applet) {
        return Memory.TRIES + applet;
    }

    private static int sharePlace(int share) {
        return Memory.SHARE_ROWS + SHARE_BYTES * share;
    }

    /** The instructions, each with what a command must look like to be one. */
    private enum Instruction {
        SELECT(164, Input.WITH_LC, 1, 0, 0, false),
        VERIFY(32, Input.WITH_LC, 2, 0, 0, false),
        CHANGE_SECRET(36, Input.WITH_LC, 2, 0, 0, true),
        UNBLOCK(44, Input.PLAIN, Input.ANY_LC, 3, 0, true),
        READ(176, Input.WITH_LE, Input.ANY_LC, 0, 255, true),
        UPDATE(214, Input.WITH_LC, Input.ANY_LC, 0, 255, true),
        BEGIN(112, Input.PLAIN, Input.ANY_LC, 0, 0, false),
        END(114, Input.PLAIN, Input.ANY_LC, 1, 0, false),
        GRANT(226, Input.WITH_LC, 4, 7, 0, true),
        REVOKE(228, Input.PLAIN, Input.ANY_LC, 7, 0, true),
        READ_SHARED(178, Input.WITH_LE, Input.ANY_LC, 7, 255, true),
        UPDATE_SHARED(220, Input.WITH_LC, Input.ANY_LC, 7, 255, true),
        /** Stands for all codes that are none; its own is no byte. */
        UNKNOWN(-1, Input.BADLY_FORMED, Input.ANY_LC, 0, 0, true);

        private static final Instruction[] ALL = values();

        private final int code;
        private final int shape;
        private final int lc;
        private final int highestP1;
        private final int highestP2;
        private final boolean guarded;

        Instruction(int code, int shape, int lc, int highestP1, int highestP2, boolean guarded) {
            this.code = code;
            this.shape = shape;
            this.lc = lc;
            this.highestP1 = highestP1;
            this.highestP2 = highestP2;
            this.guarded = guarded;
        }

        static Instruction withCode(int code) {
            for (int i = 0; i < ALL.length; i++) {
                if (ALL[i].code == code) {
                    return ALL[i];
                }
            }
            return UNKNOWN;
        }

        boolean takesForm(int givenShape, int givenLc) {
            return givenShape == shape && (lc == Input.ANY_LC || givenLc == lc);
        }

        boolean takesParameters(int p1, int p2) {
            return p1 <= highestP1 && p2 <= highestP2;
        }

        /** Whether the selected applet must be verified. */
        boolean isGuarded() {
            return guarded;
        }
    }

    /** The bytes that wait to be run, and how they read as a command. */
    private static final class Input {
        static final int BADLY_FORMED = 0;
        static final int PLAIN = 1;
        static final int WITH_LE = 2;
        static final int WITH_LC = 3;
        static final int WITH_BOTH = 4;
        /** No Lc is 0, so 0 is free to say that none is asked for. */
        static final int ANY_LC = 0;
        static final int PAYLOAD = 5;

        private static final int MOST_BYTES = 24;
        private static final int HEADER = 4;
        private static final int BYTES_OF_A_LONG = 8;

        private final int[] bytes;
        private int count;

        Input() {
            bytes = new int[MOST_BYTES];
        }

        boolean append(long packed, int n) {
            if (n < 1 || n > BYTES_OF_A_LONG || count + n > MOST_BYTES) {
                return false;
            }
            for (int i = n - 1; i >= 0; i--) {
                bytes[count] = (int) (packed >>> (8 * i)) & 255;
                count++;
            }
            return true;
        }

        void clear() {
            count = 0;
        }

        int size() {
            return count;
        }

        int shape() {
            if (count < HEADER) {
                return BADLY_FORMED;
            }
            if (count == HEADER) {
                return PLAIN;
            }
            if (count == HEADER + 1) {
                return WITH_LE;
            }
            if (lc() == 0) {
                return BADLY_FORMED;
            }
            if (count == PAYLOAD + lc()) {
                return WITH_LC;
            }
            return count == PAYLOAD + lc() + 1 ? WITH_BOTH : BADLY_FORMED;
        }

        // What follows reads single bytes, and means something only in the shapes that have them.

        int cardClass() {
            return bytes[0];
        }

        int instruction() {
            return bytes[1];
        }

        int p1() {
            return bytes[2];
        }

        int p2() {
            return bytes[3];
        }

        int lc() {
            return bytes[HEADER];
        }

        int le() {
            return bytes[HEADER] == 0 ? 256 : bytes[HEADER];
        }

        int payload(int i) {
            return bytes[PAYLOAD + i];
        }

        int[] row() {
            return bytes;
        }
    }

    /** The permanent memory with its journal; every write passes the place where the power can fail. */
    private static final class Memory {
        static final int DATA = 0;
        static final int SECRETS = DATA + APPLETS * DATA_BYTES;
        static final int TRIES = SECRETS + APPLETS * SECRET_BYTES;
        static final int SHARE_ROWS = TRIES + APPLETS;
        static final int MOST_NOTES = 20;

        private static final int NOTES = SHARE_ROWS + SHARES * SHARE_BYTES;
        private static final int NOTE_BYTES = 2;
        private static final int COUNT = NOTES + MOST_NOTES * NOTE_BYTES;
        private static final int CELLS = COUNT + 1;
        private static final int NOT_ARMED = -1;

        private final int[] cells;
        private int written;
        private int failed;
        private int fuse;

        Memory() {
            cells = new int[CELLS];
            for (int i = 0; i < APPLETS; i++) {
                cells[TRIES + i] = ALL_TRIES;
            }
            fuse = NOT_ARMED;
        }

        int at(int place) {
            return cells[place];
        }

        int count() {
            return cells[COUNT];
        }

        int written() {
            return written;
        }

        int failed() {
            return failed;
        }

        void arm(int n) {
            fuse = n;
        }

        /** False, like all that write below, if the power failed: then the caller must end at once. */
        boolean write(int place, int value) {
            if (fuse == 0) {
                fuse = NOT_ARMED;
                failed++;
                return false;
            }
            if (fuse > 0) {
                fuse--;
            }
            cells[place] = value;
            written++;
            return true;
        }

        /** The note counts only from COUNT's growth on, so a note that is half written is never undone. */
        boolean change(int place, int value) {
            int note = NOTES + NOTE_BYTES * count();
            return write(note, place)
                && write(note + 1, cells[place])
                && write(COUNT, count() + 1)
                && write(place, value);
        }

        /** COUNT stays until all bytes are back, so an undoing that was cut off can begin anew. */
        boolean undo() {
            for (int i = count() - 1; i >= 0; i--) {
                int note = NOTES + NOTE_BYTES * i;
                if (!write(cells[note], cells[note + 1])) {
                    return false;
                }
            }
            return settle();
        }

        boolean settle() {
            return count() == 0 || write(COUNT, 0);
        }
    }
}
