import java.util.List;

/** What the tests share: answers are compared, words and packets are put on the tape. */
final class Check {
    private final String test;
    private int wrong = 0;
    private int compared = 0;

    Check(String test) {
        this.test = test;
    }

    void same(String what, long got, long due) {
        compared++;
        if (got != due) {
            wrong++;
            System.out.println(test + ": " + what + " answered " + got + ", due is " + due);
        }
    }

    void yes(String what, boolean got) {
        same(what, got ? 1 : 0, 1);
    }

    void no(String what, boolean got) {
        same(what, got ? 1 : 0, 0);
    }

    /** The bytes of the latest packet sent, and nothing behind them. */
    void sent(String what, CableNames x, int... due) {
        for (int k = 0; k < due.length; k++) {
            same(what + ", byte " + k, x.sent(k), due[k]);
        }
        same(what + ", behind its bytes", x.sent(due.length), CableNames.NONE);
    }

    /** All that can be seen of the one is what can be seen of the other. */
    void alike(String what, CableNames x, CableNames y) {
        List<String> got = Seen.of(x);
        List<String> due = Seen.of(y);
        compared++;
        if (!got.equals(due)) {
            wrong++;
            int k = 0;
            while (k < got.size() && k < due.size() && got.get(k).equals(due.get(k))) {
                k++;
            }
            System.out.println(test + ": " + what + ": " + (k < got.size() ? got.get(k) : "nothing more")
                + ", due is " + (k < due.size() ? due.get(k) : "nothing more"));
        }
    }

    /** Ends the test: the exit code says whether every answer was as due. */
    void done() {
        System.out.println(test + ": " + compared + " answers compared, " + wrong + " wrong");
        if (wrong > 0) {
            System.exit(1);
        }
    }

    static int[] join(int[]... parts) {
        int length = 0;
        for (int[] part : parts) {
            length += part.length;
        }
        int[] all = new int[length];
        int place = 0;
        for (int[] part : parts) {
            System.arraycopy(part, 0, all, place, part.length);
            place += part.length;
        }
        return all;
    }

    static int[] bytes(int... values) {
        return values;
    }

    /** A word as a packet has it by its signs. */
    static int[] word(String text) {
        int[] bytes = new int[text.length() + 1];
        bytes[0] = text.length();
        for (int k = 0; k < text.length(); k++) {
            bytes[k + 1] = text.charAt(k);
        }
        return bytes;
    }

    static int[] pair(int value) {
        return bytes(value >> 8 & 255, value & 255);
    }

    static int[] four(int value) {
        return bytes(value >> 24 & 255, value >> 16 & 255, value >> 8 & 255, value & 255);
    }

    static int[] recordOfName(int unique, int life, String name, int address) {
        return join(bytes(1, unique), four(life), word(name), pair(address));
    }

    static int[] recordOfType(int unique, int life, String type, String name, int port) {
        return join(bytes(2, unique), four(life), word(type), word(name), pair(port));
    }

    static int[] answer(int[]... records) {
        return join(bytes(5, records.length), join(records));
    }

    static void tape(CableNames x, int... bytes) {
        x.end(0);
        int[] padded = java.util.Arrays.copyOf(bytes, (bytes.length + 19) / 20 * 20);
        for (int k = 0; k < padded.length; k += 20) {
            x.feed(number(padded, k), number(padded, k + 4), number(padded, k + 8),
                number(padded, k + 12), number(padded, k + 16));
        }
        x.end(bytes.length);
    }

    static void tape(CableNames x, String text) {
        int[] bytes = new int[text.length()];
        for (int k = 0; k < bytes.length; k++) {
            bytes[k] = text.charAt(k);
        }
        tape(x, bytes);
    }

    private static int number(int[] bytes, int k) {
        return bytes[k] << 24 | (bytes[k + 1] & 255) << 16 | (bytes[k + 2] & 255) << 8 | bytes[k + 3] & 255;
    }

    static int give(CableNames x, int host, int[] packet) {
        tape(x, packet);
        return x.give(host);
    }

    static boolean claim(CableNames x, int host, String name) {
        tape(x, name);
        return x.claim(host);
    }

    static int service(CableNames x, int host, String type, int port) {
        tape(x, type);
        return x.service(host, port);
    }

    static int ask(CableNames x, int host, int sort, String word) {
        tape(x, word);
        return x.ask(host, sort);
    }

    static String name(CableNames x, int host) {
        StringBuilder text = new StringBuilder();
        for (int k = 0; x.sign(host, k) != CableNames.NONE; k++) {
            text.append((char) x.sign(host, k));
        }
        return text.toString();
    }

    void named(String what, CableNames x, int host, String due) {
        String got = name(x, host);
        same(what + " (" + got + " against " + due + ")", got.equals(due) ? 1 : 0, 1);
    }
}
