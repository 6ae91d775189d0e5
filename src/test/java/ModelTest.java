import java.util.Map;
import java.util.Random;
import java.util.TreeMap;

/** Long runs of calls by a fixed seed, every answer compared with the model's. */
final class ModelTest {
    private static final int RUNS = 6000;
    private static final int CALLS = 512;
    private static final int LAST_LOOK = 64 + 4 + 8 + 8;
    private static final Checks CHECKS = new Checks();
    private static final Map<Integer, Integer> STATUSES = new TreeMap<>();

    private final Random random;
    private final String name;
    private final AppletFirewall card = new AppletFirewall();
    private final Model model = new Model();
    private int calls;

    private ModelTest(int seed) {
        random = new Random(seed);
        name = "run " + seed + ", call ";
    }

    public static void main(String[] args) {
        for (int seed = 0; seed < RUNS && CHECKS.allRight(); seed++) {
            new ModelTest(seed).play();
        }
        // A run that never met a status would prove nothing of it.
        int[] all = {-1, 25536, 25537, 25538, 26368, 27010, 27011, 27013, 27264, 27266, 27268, 27270, 27272,
            27273, 27392, 27904, 28160, 36864};
        for (int status : all) {
            CHECKS.due("status " + status + " was met", STATUSES.getOrDefault(status, 0) > 100, true);
        }
        System.out.println("statuses met: " + STATUSES);
        CHECKS.end();
    }

    private void play() {
        // One command has at most four calls: three of put, one of run.
        while (calls + 4 + LAST_LOOK <= CALLS && CHECKS.allRight()) {
            step();
        }
        lookAtAll();
    }

    private void step() {
        int kind = random.nextInt(100);
        if (kind < 70) {
            command();
        } else if (kind < 75) {
            int n = random.nextInt(10) == 0 ? oddNumber() : random.nextInt(random.nextBoolean() ? 6 : 80);
            due("tear(" + n + ")", card.tear(n), model.tear(n));
        } else if (kind < 78 || model.session() == AppletFirewall.OFF && kind < 90) {
            due("reset()", card.reset(), model.reset());
        } else if (kind < 80) {
            put(random.nextLong(), random.nextInt(20) == 0 ? oddNumber() : random.nextInt(10));
        } else {
            look();
        }
    }

    private int oddNumber() {
        int[] odd = {-1, 8, 9, 16, 999, 1000, 1001, Integer.MAX_VALUE, Integer.MIN_VALUE};
        return odd[random.nextInt(odd.length)];
    }

    private void command() {
        int[] bytes = plausible();
        if (random.nextInt(12) == 0) {
            bytes[random.nextInt(bytes.length)] = random.nextInt(random.nextBoolean() ? 256 : 17);
        }
        int n = bytes.length;
        if (random.nextInt(40) == 0) {
            n -= random.nextInt(n);
        }
        for (int start = 0; start < n; start += 8) {
            int piece = Math.min(8, n - start);
            long packed = random.nextLong();
            for (int i = 0; i < piece; i++) {
                packed = packed << 8 | bytes[start + i];
            }
            put(packed, piece);
        }
        int status = model.run();
        STATUSES.merge(status, 1, Integer::sum);
        due("run()", card.run(), status);
    }

    /** A command that could be done, if the card's state allows it. */
    private int[] plausible() {
        int session = model.session();
        if (session < 0 || random.nextInt(30) == 0) {
            return Terminal.withPayload(164, 0, 0, random.nextInt(20) == 0 ? 4 : random.nextInt(4));
        }
        int[] secret = model.secretOfSelected();
        if ((session & 8) == 0 && random.nextInt(3) > 0 || random.nextInt(30) == 0) {
            boolean right = random.nextInt(4) > 0;
            return Terminal.withPayload(32, 0, 0, secret[0], right ? secret[1] : random.nextInt(256));
        }
        int offset = random.nextInt(random.nextBoolean() ? 4 : 18);
        int share = random.nextInt(random.nextBoolean() ? 2 : 8);
        int le = random.nextInt(random.nextInt(3) == 0 ? 18 : 5);
        switch (random.nextInt(14)) {
            case 0:
                return Terminal.withPayload(36, 0, 0, random.nextInt(256), random.nextInt(256));
            case 1:
                return new int[] {128, 44, random.nextInt(5), 0};
            case 2:
                return new int[] {128, 176, 0, offset, le};
            case 3:
            case 4:
                return Terminal.withPayload(214, 0, offset, someBytes());
            case 5:
            case 6:
                return new int[] {128, 112, 0, 0};
            case 7:
                return new int[] {128, 114, random.nextInt(3), 0};
            case 8:
            case 9:
                return Terminal.withPayload(226, share, 0,
                    random.nextInt(4), random.nextInt(8), random.nextInt(12), random.nextInt(5) / 2);
            case 10:
                return new int[] {128, 228, share, 0};
            case 11:
                return new int[] {128, 178, share, offset, le};
            default:
                return Terminal.withPayload(220, share, offset, someBytes());
        }
    }

    private int[] someBytes() {
        int[] bytes = new int[1 + random.nextInt(random.nextInt(3) == 0 ? 17 : 4)];
        for (int i = 0; i < bytes.length; i++) {
            bytes[i] = random.nextInt(256);
        }
        return bytes;
    }

    private void put(long bytes, int n) {
        due("put(" + bytes + ", " + n + ")", card.put(bytes, n), model.put(bytes, n));
    }

    private void look() {
        int a = random.nextInt(6) - 1;
        int i = random.nextInt(18) - 1;
        switch (random.nextInt(10)) {
            case 0:
                due("waiting()", card.waiting(), model.waiting());
                break;
            case 1:
                due("length()", card.length(), model.length());
                break;
            case 2:
                due("response(" + i + ")", card.response(i), model.response(i));
                break;
            case 3:
                due("writes()", card.writes(), model.writes());
                break;
            case 4:
                due("failures()", card.failures(), model.failures());
                break;
            case 5:
                due("data(" + a + ", " + i + ")", card.data(a, i), model.data(a, i));
                break;
            case 6:
                due("tries(" + a + ")", card.tries(a), model.tries(a));
                break;
            case 7:
                due("share(" + i + ")", card.share(i), model.share(i));
                break;
            case 8:
                due("pending()", card.pending(), model.pending());
                break;
            default:
                due("session()", card.session(), model.session());
                break;
        }
    }

    private void lookAtAll() {
        due("last waiting()", card.waiting(), model.waiting());
        due("last length()", card.length(), model.length());
        due("last writes()", card.writes(), model.writes());
        due("last failures()", card.failures(), model.failures());
        due("last session()", card.session(), model.session());
        due("last pending()", card.pending(), model.pending());
        due("last reset()", card.reset(), model.reset());
        for (int applet = 0; applet < 4; applet++) {
            due("last tries(" + applet + ")", card.tries(applet), model.tries(applet));
            for (int i = 0; i < 16; i++) {
                due("last data(" + applet + ", " + i + ")", card.data(applet, i), model.data(applet, i));
            }
        }
        for (int share = 0; share < 8; share++) {
            due("last share(" + share + ")", card.share(share), model.share(share));
        }
    }

    private void due(String call, long got, long want) {
        calls++;
        CHECKS.due(name + calls + ": " + call, got, want);
    }

    private void due(String call, boolean got, boolean want) {
        due(call, got ? 1 : 0, want ? 1 : 0);
    }
}
