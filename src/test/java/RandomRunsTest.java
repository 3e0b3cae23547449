import java.util.Arrays;
import java.util.NoSuchElementException;
import java.util.Random;

/** Seeded random runs of up to 512 calls: every answer, and all that can be seen, is the one of PlainCable. */
final class RandomRunsTest {
    private static final int[] IDS = {1, 2, 3, 65025, 65026, 65027, 250, 200, 1000, 65535, 511, 77, 4};
    private static final String[] WORDS = {"a", "A", "b", "a-2", "lamp", "Lamp", "LAMP", "fifteen-signs-x",
        "Fifteen-Signs-X", "q", "a-3", "A-2"};
    private static final int[] GOES = {0, 1, 2, 10, 31, 100, 100, 200, 250, 500, 1000, 1001, 2000, 5000, 10000};

    private final Random random;
    private final CableNames x = new CableNames();
    private final PlainCable y = new PlainCable();
    private final StringBuilder calls = new StringBuilder();

    private RandomRunsTest(long seed) {
        random = new Random(seed);
    }

    public static void main(String[] args) {
        int runs = args.length > 0 ? Integer.parseInt(args[0]) : 400;
        int first = args.length > 1 ? Integer.parseInt(args[1]) : 0;
        Check check = new Check("RandomRunsTest");
        for (int seed = first; seed < first + runs; seed++) {
            String fault = new RandomRunsTest(seed).run();
            check.yes("run of seed " + seed + fault, fault.isEmpty());
            if (!fault.isEmpty()) {
                break;
            }
        }
        check.done();
    }

    private String run() {
        int length = 50 + random.nextInt(400);
        for (int k = 0; k < length; k++) {
            String fault = random.nextInt(4) == 0 || k < 6 ? comeOn() : call();
            if (fault.isEmpty() && random.nextInt(3) == 0) {
                fault = compareAll();
            }
            if (!fault.isEmpty()) {
                return fault + "\n  after:" + calls;
            }
        }
        String fault = compareAll();
        return fault.isEmpty() ? "" : fault + "\n  after:" + calls;
    }

    private String same(String call, long got, long due) {
        calls.append("\n  ").append(call).append(" = ").append(due);
        return got == due ? "" : ": " + call + " answered " + got + ", due is " + due;
    }

    private static int bit(boolean value) {
        return value ? 1 : 0;
    }

    private int host() {
        return random.nextInt(60) == 0 ? random.nextInt(20) - 6 : random.nextInt(5);
    }

    private String word() {
        return WORDS[random.nextInt(WORDS.length)];
    }

    private String comeOn() {
        int host = host();
        int id = IDS[random.nextInt(IDS.length)];
        return same("on(" + host + ", " + id + ")", bit(x.on(host, id)), bit(y.on(host, id)));
    }

    private String tape(int... bytes) {
        String fault = same("end(0)", x.end(0), y.end(0));
        int[] padded = Arrays.copyOf(bytes, (bytes.length + 19) / 20 * 20);
        for (int k = 0; k < padded.length; k += 20) {
            int[] n = new int[5];
            for (int j = 0; j < 20; j++) {
                n[j / 4] = n[j / 4] << 8 | padded[k + j] & 255;
            }
            fault += same("feed" + Arrays.toString(n), x.feed(n[0], n[1], n[2], n[3], n[4]),
                y.feed(n[0], n[1], n[2], n[3], n[4]));
        }
        return fault + same("end(" + bytes.length + ")", x.end(bytes.length), y.end(bytes.length));
    }

    private String tapeWord() {
        if (random.nextInt(30) == 0) {
            return "";
        }
        String text = random.nextInt(30) == 0 ? "no word" : word();
        return tape(text.chars().toArray());
    }

    private String call() {
        int host = host();
        int n;
        switch (random.nextInt(16)) {
            case 0:
                boolean politely = random.nextBoolean();
                if (random.nextInt(3) > 0) {
                    return "";
                }
                return same("off(" + host + ", " + politely + ")", bit(x.off(host, politely)),
                    bit(y.off(host, politely)));
            case 1:
            case 2:
                return tapeWord() + same("claim(" + host + ")", bit(x.claim(host)), bit(y.claim(host)));
            case 3:
                n = random.nextInt(20) == 0 ? 65536 : random.nextInt(4);
                return tapeWord() + same("service(" + host + ", " + n + ")", x.service(host, n), y.service(host, n));
            case 4:
            case 5:
                n = random.nextInt(20) == 0 ? 3 : 1 + random.nextInt(2);
                return tapeWord() + same("ask(" + host + ", " + n + ")", x.ask(host, n), y.ask(host, n));
            case 6:
                n = random.nextInt(6) - 1;
                return same("close(" + host + ", " + n + ")", bit(x.close(host, n)), bit(y.close(host, n)));
            case 7:
                n = random.nextInt(256);
                x.split(n);
                y.split(n);
                return same("split(" + n + ")", 0, 0);
            case 8:
                x.join();
                y.join();
                return same("join()", 0, 0);
            case 9:
                n = random.nextInt(10) == 0 ? 1001 : random.nextInt(4);
                return same("lose(" + host + ", " + n + ")", bit(x.lose(host, n)), bit(y.lose(host, n)));
            case 10:
            case 11:
            case 12:
                return tape(packet()) + same("give(" + host + ")", x.give(host), y.give(host));
            default:
                n = random.nextInt(30) == 0 ? 20001 : GOES[random.nextInt(GOES.length)];
                return same("go(" + n + ")", x.go(n), y.go(n));
        }
    }

    // ---- packets that are like those of hosts, some of them with a wrong byte ----

    private int address() {
        PlainCable.H h = y.hosts[random.nextInt(8)];
        return h == null ? random.nextInt(3) : h.address();
    }

    private int[] wordBytes(int[] ahead) {
        if (ahead.length > 2 && random.nextInt(5) == 0) {
            return Check.bytes(128 + random.nextInt(Math.min(ahead.length, 128)));
        }
        PlainCable.H h = y.hosts[random.nextInt(8)];
        return Check.word(h == null || h.name == null || random.nextBoolean() ? word() : h.name);
    }

    private int life() {
        int[] lives = {0, 0, 1, 7, 99, 1000, 3000, 120000, Integer.MAX_VALUE, 20000};
        return lives[random.nextInt(lives.length)];
    }

    private int[] telling(int[] ahead, int sort) {
        if (sort == 2) {
            return Check.join(ahead, wordBytes(ahead), Check.pair(random.nextInt(3)));
        }
        return Check.join(ahead, Check.pair(address()));
    }

    private int[] packet() {
        int kind = random.nextInt(8);
        int[] bytes;
        if (kind < 3) {
            bytes = Check.bytes(kind < 2 ? kind + 1 : 3);
            bytes = kind == 2 ? Check.join(bytes, wordBytes(bytes)) : bytes;
            int id = random.nextInt(4) == 0 ? random.nextInt(65536) : IDS[random.nextInt(IDS.length)];
            bytes = Check.join(bytes, Check.pair(address()), Check.pair(id));
        } else if (kind == 3) {
            int sort = 1 + random.nextInt(2);
            int many = random.nextInt(4);
            bytes = Check.join(Check.bytes(4, sort), wordBytes(new int[0]), Check.bytes(many));
            for (int k = 0; k < many; k++) {
                bytes = telling(bytes, sort);
            }
        } else {
            int many = 1 + random.nextInt(random.nextInt(4) == 0 ? 8 : 3);
            bytes = Check.bytes(5, many);
            for (int k = 0; k < many; k++) {
                int sort = 1 + random.nextInt(2);
                bytes = Check.join(bytes, Check.bytes(sort, random.nextInt(2)), Check.four(life()));
                bytes = telling(Check.join(bytes, wordBytes(bytes)), sort);
            }
        }
        bytes = bytes.length > 200 ? Arrays.copyOf(bytes, 200) : bytes;
        if (random.nextInt(8) == 0) {
            bytes[random.nextInt(bytes.length)] = random.nextInt(256);
        }
        if (random.nextInt(12) == 0) {
            bytes = Arrays.copyOf(bytes, Math.min(200, random.nextInt(bytes.length + 3)));
        }
        return bytes;
    }

    // ---- all that can be seen ----

    private String compareAll() {
        String fault = "";
        for (int what = -1; what < 12; what++) {
            fault += differ("count", what, 0, x.count(what), y.count(what));
        }
        for (int k = -1; k < 201; k++) {
            fault += differ("sent", k, 0, x.sent(k), y.sent(k));
        }
        for (int host = -1; host < 9; host++) {
            for (int what = -1; what < 13; what++) {
                fault += differ("look", host, what, lookX(host, what), lookY(host, what));
            }
            for (int k = -1; k < 16; k++) {
                fault += differ("sign", host, k, x.sign(host, k), y.sign(host, k));
            }
            for (int k = -1; k < 25; k++) {
                for (int what = -1; what < 8; what++) {
                    fault += differ("entry " + host, k, what, x.entry(host, k, what), y.entry(host, k, what));
                }
            }
            for (int q = -1; q < 5; q++) {
                fault += differ("answers", host, q, x.answers(host, q), y.answers(host, q));
                for (int k = -1; k < 5; k++) {
                    for (int what = -1; what < 4; what++) {
                        fault += differ("found " + host + ", " + q, k, what, x.found(host, q, k, what),
                            y.found(host, q, k, what));
                    }
                }
            }
            PlainCable.H h = host < 0 || host > 7 ? null : y.hosts[host];
            int address = h == null ? host : h.address();
            fault += differ("holders", address, 0, x.holders(address), y.holders(address));
        }
        return fault;
    }

    private static String differ(String call, int a, int b, int got, int due) {
        return got == due ? "" : "\n  " + call + " (" + a + ", " + b + ") answered " + got + ", due is " + due;
    }

    private int lookX(int host, int what) {
        try {
            return x.look(host, what);
        } catch (IndexOutOfBoundsException e) {
            return -1001;
        } catch (NoSuchElementException e) {
            return -1002;
        }
    }

    private int lookY(int host, int what) {
        try {
            return y.look(host, what);
        } catch (IndexOutOfBoundsException e) {
            return -1001;
        } catch (NoSuchElementException e) {
            return -1002;
        }
    }
}
