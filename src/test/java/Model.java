import java.util.ArrayDeque;
import java.util.ArrayList;
import java.util.Deque;
import java.util.List;

/**
 * A second reading of the document, to compare the program with: the power's failure is an
 * exception here, bytes are objects of their own, and every instruction tells its conditions anew.
 */
final class Model {
    private static final class PowerLost extends RuntimeException {
        private static final long serialVersionUID = 1;
    }

    private static final class Cell {
        int value;
    }

    private static final class Note {
        final Cell where;
        final int was;

        Note(Cell where, int was) {
            this.where = where;
            this.was = was;
        }
    }

    private final Cell[][] data = cells(4, 16);
    private final Cell[][] secrets = cells(4, 2);
    private final Cell[][] tries = cells(4, 1);
    private final Cell[][] shares = cells(8, 4);
    private final Deque<Note> journal = new ArrayDeque<>();

    private final List<Integer> input = new ArrayList<>();
    private final List<Integer> response = new ArrayList<>();
    private boolean on = true;
    private Integer selected;
    private boolean verified;
    private boolean open;

    private Integer armed;
    private int writes;
    private int failures;

    Model() {
        for (Cell[] c : tries) {
            c[0].value = 3;
        }
    }

    private static Cell[][] cells(int rows, int columns) {
        Cell[][] all = new Cell[rows][columns];
        for (Cell[] row : all) {
            for (int i = 0; i < columns; i++) {
                row[i] = new Cell();
            }
        }
        return all;
    }

    private void spendWrite() {
        if (armed != null && armed == 0) {
            armed = null;
            failures++;
            throw new PowerLost();
        }
        if (armed != null) {
            armed--;
        }
        writes++;
    }

    private void write(Cell c, int value) {
        spendWrite();
        c.value = value;
    }

    private void change(Cell c, int value) {
        spendWrite();
        spendWrite();
        spendWrite();
        journal.push(new Note(c, c.value));
        write(c, value);
    }

    private void settle() {
        if (!journal.isEmpty()) {
            spendWrite();
            journal.clear();
        }
    }

    private void undo() {
        for (Note note : journal) {
            write(note.where, note.was);
        }
        settle();
    }

    private int store(Cell[] row, int from, List<Integer> bytes) {
        if (open && journal.size() + bytes.size() > 20) {
            return 27268;
        }
        for (int i = 0; i < bytes.size(); i++) {
            change(row[from + i], bytes.get(i));
        }
        if (!open) {
            settle();
        }
        return 36864;
    }

    private void forget() {
        selected = null;
        verified = false;
        open = false;
        input.clear();
        response.clear();
    }

    boolean put(long bytes, int n) {
        if (!on || n <= 0 || n >= 9 || input.size() > 24 - n) {
            return false;
        }
        String hex = String.format("%016x", bytes);
        for (int at = 16 - 2 * n; at < 16; at += 2) {
            input.add(Integer.parseInt(hex.substring(at, at + 2), 16));
        }
        return true;
    }

    int run() {
        if (!on) {
            return -1;
        }
        List<Integer> command = new ArrayList<>(input);
        input.clear();
        response.clear();
        try {
            int status = obey(command);
            if (status != 36864) {
                response.clear();
            }
            return status;
        } catch (PowerLost e) {
            forget();
            on = false;
            return -1;
        }
    }

    private int obey(List<Integer> c) {
        int behind = c.size() - 4;
        boolean shape1 = behind == 0;
        boolean shape2 = behind == 1;
        boolean shape3 = behind > 1 && c.get(4) > 0 && behind - 1 == c.get(4);
        boolean shape4 = behind > 1 && c.get(4) > 0 && behind - 2 == c.get(4);
        if (!shape1 && !shape2 && !shape3 && !shape4) {
            return 26368;
        }
        if (c.get(0) != 128) {
            return 28160;
        }
        int le = shape2 ? (c.get(4) == 0 ? 256 : c.get(4)) : -1;
        List<Integer> payload = shape3 ? c.subList(5, c.size()) : null;
        int code = c.get(1);
        int p1 = c.get(2);
        int p2 = c.get(3);
        switch (code) {
            case 164:
                return first(lc(payload, 1), p1 == 0 && p2 == 0, true, true, () -> select(payload.get(0)));
            case 32:
                return first(lc(payload, 2), p1 == 0 && p2 == 0, false, true, () -> verify(payload));
            case 36:
                return first(lc(payload, 2), p1 == 0 && p2 == 0, false, false,
                    () -> store(secrets[selected], 0, payload));
            case 44:
                return first(shape1, p1 < 4 && p2 == 0, false, false, () -> unblock(p1));
            case 176:
                return first(shape2, p1 == 0, false, false, () -> read(data[selected], p2, le, p2 + le > 16));
            case 214:
                return first(shape3, p1 == 0, false, false,
                    () -> p2 + payload.size() > 16 ? 27392 : store(data[selected], p2, payload));
            case 112:
                return first(shape1, p1 == 0 && p2 == 0, false, true, this::begin);
            case 114:
                return first(shape1, p1 < 2 && p2 == 0, false, true, () -> end(p1 == 0));
            case 226:
                return first(lc(payload, 4), p1 < 8 && p2 == 0, false, false, () -> grant(shares[p1], payload));
            case 228:
                return first(shape1, p1 < 8 && p2 == 0, false, false, () -> revoke(shares[p1]));
            case 178:
                return first(shape2, p1 < 8, false, false, () -> readShared(shares[p1], p2, le));
            case 220:
                return first(shape3, p1 < 8, false, false, () -> updateShared(shares[p1], p2, payload));
            default:
                return 27904;
        }
    }

    private static boolean lc(List<Integer> payload, int n) {
        return payload != null && payload.size() == n;
    }

    private interface Deed {
        int carryOut();
    }

    private int first(boolean form, boolean parameters, boolean anyone, boolean unverified, Deed deed) {
        if (!form) {
            return 26368;
        }
        if (!parameters) {
            return 27270;
        }
        if (!anyone && selected == null) {
            return 27013;
        }
        return unverified || verified ? deed.carryOut() : 27010;
    }

    private int select(int applet) {
        if (applet > 3) {
            return 27266;
        }
        if (open) {
            undo();
            open = false;
        }
        selected = applet;
        verified = false;
        response.add(tries[applet][0].value);
        return 36864;
    }

    private int verify(List<Integer> given) {
        Cell left = tries[selected][0];
        if (left.value == 0) {
            return 27011;
        }
        write(left, left.value - 1);
        Cell[] secret = secrets[selected];
        verified = secret[0].value == given.get(0) && secret[1].value == given.get(1);
        if (!verified) {
            return 25536 + left.value;
        }
        write(left, 3);
        return 36864;
    }

    private int unblock(int applet) {
        if (selected != 0) {
            return 27010;
        }
        write(tries[applet][0], 3);
        return 36864;
    }

    private int read(Cell[] row, int from, int n, boolean beyond) {
        if (beyond) {
            return 27392;
        }
        for (int i = 0; i < n; i++) {
            response.add(row[from + i].value);
        }
        return 36864;
    }

    private int begin() {
        if (open) {
            return 27013;
        }
        open = true;
        return 36864;
    }

    private int end(boolean keep) {
        if (!open) {
            return 27013;
        }
        if (keep) {
            settle();
        } else {
            undo();
        }
        open = false;
        return 36864;
    }

    private int grant(Cell[] share, List<Integer> given) {
        int client = given.get(0);
        int end = given.get(1) + given.get(2);
        if (client > 3 || client == selected || given.get(2) == 0 || end > 16 || given.get(3) > 1) {
            return 27264;
        }
        if (share[0].value != 0) {
            return 27273;
        }
        return store(share, 0, List.of(1 + 4 * selected + client, given.get(1), given.get(2), given.get(3)));
    }

    private int revoke(Cell[] share) {
        int first = share[0].value;
        if (first == 0 || (first - 1) / 4 != selected) {
            return 27272;
        }
        return store(share, 0, List.of(0));
    }

    private boolean isClosed(Cell[] share) {
        int first = share[0].value;
        return first == 0 || (first - 1) % 4 != selected;
    }

    private int readShared(Cell[] share, int offset, int n) {
        if (isClosed(share)) {
            return 27272;
        }
        Cell[] row = data[(share[0].value - 1) / 4];
        return read(row, share[1].value + offset, n, offset + n > share[2].value);
    }

    private int updateShared(Cell[] share, int offset, List<Integer> bytes) {
        if (isClosed(share)) {
            return 27272;
        }
        if (share[3].value == 0) {
            return 27010;
        }
        if (offset + bytes.size() > share[2].value) {
            return 27392;
        }
        return store(data[(share[0].value - 1) / 4], share[1].value + offset, bytes);
    }

    int waiting() {
        return input.size();
    }

    int length() {
        return response.size();
    }

    int response(int i) {
        return i >= 0 && i < response.size() ? response.get(i) : -2;
    }

    boolean tear(int n) {
        if (n < 0 || n > 1000 || failures >= 40) {
            return false;
        }
        armed = n;
        return true;
    }

    int reset() {
        forget();
        on = true;
        int notes = journal.size();
        try {
            undo();
        } catch (PowerLost e) {
            on = false;
            return -1;
        }
        return notes;
    }

    int writes() {
        return writes;
    }

    int failures() {
        return failures;
    }

    int data(int applet, int i) {
        if (applet < 0 || applet > 3 || i < 0 || i > 15) {
            return -2;
        }
        return on ? data[applet][i].value : -1;
    }

    int tries(int applet) {
        if (applet < 0 || applet > 3) {
            return -2;
        }
        return on ? tries[applet][0].value : -1;
    }

    int share(int share) {
        if (share < 0 || share > 7) {
            return -2;
        }
        Cell[] s = shares[share];
        return on ? s[0].value | s[1].value << 8 | s[2].value << 16 | s[3].value << 24 : -1;
    }

    int pending() {
        return on ? journal.size() : -1;
    }

    int session() {
        if (!on) {
            return -1;
        }
        return selected == null ? -2 : selected | (verified ? 8 : 0) | (open ? 16 : 0);
    }

    /** What a run that wants to come far must know: the secret of the selected applet. */
    int[] secretOfSelected() {
        int applet = selected == null ? 0 : selected;
        return new int[] {secrets[applet][0].value, secrets[applet][1].value};
    }
}
