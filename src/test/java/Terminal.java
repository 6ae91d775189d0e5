import java.util.Arrays;

/** Sends whole commands to a card, so that a test reads as commands and not as packed longs. */
final class Terminal {
    static final int DONE = 36864;

    final AppletFirewall card = new AppletFirewall();

    /** A card with this applet selected and verified by the first secret. */
    static Terminal loggedIn(int applet) {
        Terminal t = new Terminal();
        t.logIn(applet);
        return t;
    }

    /** A card whose power failed when an applet was verified and a response was there; nothing is pending. */
    static Terminal cutOff() {
        Terminal t = loggedIn(0);
        t.read(0, 3);
        t.card.tear(0);
        t.verify(0, 0);
        return t;
    }

    /** Applet 0 is logged in and has a transaction open with so many notes, at most 20. */
    static Terminal withNotes(int notes) {
        Terminal t = loggedIn(0);
        t.begin();
        t.addNotes(notes);
        return t;
    }

    /** Changes so many of the selected applet's data, at most 32. */
    void addNotes(int notes) {
        for (int left = notes; left > 0; left -= 16) {
            update(0, row(100 + left, Math.min(left, 16)));
        }
    }

    boolean putAll(int... bytes) {
        boolean taken = true;
        for (int start = 0; start < bytes.length; start += 8) {
            int n = Math.min(8, bytes.length - start);
            long packed = 0;
            for (int i = 0; i < n; i++) {
                packed = packed << 8 | bytes[start + i];
            }
            taken &= card.put(packed, n);
        }
        return taken;
    }

    int send(int... bytes) {
        putAll(bytes);
        return card.run();
    }

    /** A command of shape 3. */
    static int[] withPayload(int code, int p1, int p2, int... payload) {
        int[] bytes = new int[5 + payload.length];
        bytes[0] = 128;
        bytes[1] = code;
        bytes[2] = p1;
        bytes[3] = p2;
        bytes[4] = payload.length;
        System.arraycopy(payload, 0, bytes, 5, payload.length);
        return bytes;
    }

    int logIn(int applet) {
        select(applet);
        return verify(0, 0);
    }

    int select(int applet) {
        return send(withPayload(164, 0, 0, applet));
    }

    int verify(int a, int b) {
        return send(withPayload(32, 0, 0, a, b));
    }

    int changeSecret(int a, int b) {
        return send(withPayload(36, 0, 0, a, b));
    }

    int unblock(int applet) {
        return send(128, 44, applet, 0);
    }

    int read(int offset, int le) {
        return send(128, 176, 0, offset, le);
    }

    int update(int offset, int... bytes) {
        return send(withPayload(214, 0, offset, bytes));
    }

    int begin() {
        return send(128, 112, 0, 0);
    }

    int commit() {
        return send(128, 114, 0, 0);
    }

    int abort() {
        return send(128, 114, 1, 0);
    }

    int grant(int share, int client, int offset, int length, int mode) {
        return send(withPayload(226, share, 0, client, offset, length, mode));
    }

    int revoke(int share) {
        return send(128, 228, share, 0);
    }

    int readShared(int share, int offset, int le) {
        return send(128, 178, share, offset, le);
    }

    int updateShared(int share, int offset, int... bytes) {
        return send(withPayload(220, share, offset, bytes));
    }

    String responseText() {
        int[] bytes = new int[card.length()];
        for (int i = 0; i < bytes.length; i++) {
            bytes[i] = card.response(i);
        }
        return Arrays.toString(bytes);
    }

    String dataText(int applet) {
        int[] bytes = new int[16];
        for (int i = 0; i < bytes.length; i++) {
            bytes[i] = card.data(applet, i);
        }
        return Arrays.toString(bytes);
    }

    /** All that can be seen of the permanent memory. */
    String memoryText() {
        StringBuilder text = new StringBuilder();
        for (int applet = 0; applet < 4; applet++) {
            text.append(dataText(applet)).append(" tries ").append(card.tries(applet)).append(' ');
        }
        for (int share = 0; share < 8; share++) {
            text.append(" share ").append(card.share(share));
        }
        return text.append(" pending ").append(card.pending()).toString();
    }

    /** All that can be seen of the card, but for input and response; takes 80 calls. */
    String stateText() {
        return memoryText() + " session " + card.session() + " writes " + card.writes()
            + " failures " + card.failures();
    }

    /** The bytes first, first + 1 and so on, n of them. */
    static int[] row(int first, int n) {
        int[] bytes = new int[n];
        for (int i = 0; i < n; i++) {
            bytes[i] = first + i;
        }
        return bytes;
    }
}
