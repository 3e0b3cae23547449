/** Promise 14 (give), and packets (terms 6). */
final class PacketTest {
    private static final Check CHECK = new Check("PacketTest");
    private static final String LONG = "fifteen-signs-x";

    public static void main(String[] args) {
        giveRefuses();
        giveIsNotCounted();
        readable();
        unreadable();
        wordsLedBackTo();
        everyCutIsUnreadable();
        anyBytes();
        CHECK.done();
    }

    private static int take(int... bytes) {
        CableNames x = new CableNames();
        x.on(0, 1);
        int answer = Check.give(x, 0, bytes);
        CHECK.same("14: the tape is empty", x.end(1), -1);
        CHECK.same("15: packets that it could not read", x.look(0, 11), answer);
        if (answer == 1) {
            CHECK.same("14: nothing comes of it", x.look(0, 8) + x.look(0, 3) + x.count(1), 0);
        }
        return answer;
    }

    private static void good(String what, int[]... parts) {
        CHECK.same("6.: can be read: " + what, take(Check.join(parts)), 0);
    }

    private static void bad(String what, int[]... parts) {
        CHECK.same("6.: can't be read: " + what, take(Check.join(parts)), 1);
    }

    private static int[] b(int... bytes) {
        return bytes;
    }

    private static void giveRefuses() {
        CableNames x = new CableNames();
        Check.tape(x, 1, 0, 0, 0, 1);
        CHECK.same("14: off", x.give(0), -1);
        CHECK.same("14: host -1", x.give(-1), -1);
        CHECK.same("14: host 8", x.give(8), -1);
        CHECK.same("14: the tape stays", x.end(5), 5);
    }

    private static void giveIsNotCounted() {
        CableNames x = new CableNames();
        x.on(0, 1);
        x.on(1, 2);
        x.go(5000);
        int heard = x.count(3);
        int sent = x.count(1);
        x.lose(0, 1);
        CHECK.same("14: taken", Check.give(x, 0, b(1, 1, 1, 0, 9)), 0);
        CHECK.same("14: not heard", x.count(3), heard);
        CHECK.same("14: not lost", x.count(4), 0);
        CHECK.same("14: what it sends comes to the queue", x.count(1), sent + 1);
        x.go(0);
        CHECK.same("14: and is heard then", x.count(3), heard + 1);
        x.on(2, 200);
        x.go(0);
        CHECK.same("14: it had to lose one still", x.count(4), 1);
    }

    private static void readable() {
        good("APROBE", b(1, 253, 255, 255, 255));
        good("ATELL of id 0", b(2, 0, 0, 0, 0));
        good("NPROBE", b(3), Check.word(LONG), b(253, 255, 0, 0));
        good("ASK", b(4, 1), Check.word("a"), b(0));
        good("ASK with eight addresses", b(4, 1), Check.word("a"), b(8), new int[16]);
        good("ASK with a service", b(4, 2), Check.word("-"), b(1), Check.word("Z"), b(255, 255));
        good("ANSWER", Check.answer(Check.recordOfName(1, 0, "a", 65023)));
        good("ANSWER of the longest life", Check.answer(Check.recordOfType(1, Integer.MAX_VALUE, "t", "n", 65535)));
        int[][] eight = new int[8][];
        for (int k = 0; k < 8; k++) {
            eight[k] = Check.recordOfType(k % 2, 1, "t" + k, "name" + k, k);
        }
        good("ANSWER of eight", Check.answer(eight));
    }

    private static void unreadable() {
        bad("nothing");
        bad("kind 0", b(0, 0, 0, 0, 1));
        bad("kind 6", b(6, 0, 0, 0, 1));
        bad("kind 255", b(255, 0, 0, 0, 1));
        bad("address 65024", b(1, 254, 0, 0, 1));
        bad("address 65535", b(2, 255, 255, 0, 1));
        bad("address of an NPROBE", b(3, 1, 'a', 254, 0, 0, 1));
        bad("address in an ASK", b(4, 1, 1, 'a', 1, 254, 0));
        bad("address in an ANSWER", Check.answer(Check.recordOfName(0, 1, "a", 65024)));
        bad("no signs", b(3, 0, 0, 0, 0, 1));
        bad("sixteen signs", b(3), Check.word("sixteen-signs-xx"), b(0, 0, 0, 1));
        bad("127 signs", b(3, 127, 0, 0, 0, 1));
        for (int sign = 0; sign < 256; sign++) {
            boolean is = (char) sign < 128 && ("" + (char) sign).matches("[A-Za-z0-9-]");
            CHECK.same("6.: sign " + sign, take(3, 2, 'a', sign, 0, 0, 0, 1), is ? 0 : 1);
        }
        bad("sort 0 asked", b(4, 0, 1, 'a', 0));
        bad("sort 3 asked", b(4, 3, 1, 'a', 0));
        bad("nine told", b(4, 1, 1, 'a', 9), new int[18]);
        bad("no record", b(5, 0));
        int[][] nine = new int[9][];
        for (int k = 0; k < 9; k++) {
            nine[k] = Check.recordOfName(0, 1, "a", k);
        }
        bad("nine records", Check.answer(nine));
        bad("sort 0", b(5, 1, 0, 0, 0, 0, 0, 1, 1, 'a', 0, 1));
        bad("sort 3", b(5, 1, 3, 0, 0, 0, 0, 1, 1, 'a', 0, 1));
        bad("unique 2", b(5, 1, 1, 2, 0, 0, 0, 1, 1, 'a', 0, 1));
        bad("a life of 2^31", b(5, 1, 1, 0, 128, 0, 0, 0, 1, 'a', 0, 1));
        bad("a life of 2^32 - 1", b(5, 1, 1, 0, 255, 255, 255, 255, 1, 'a', 0, 1));
        bad("a good record and a bad one", Check.answer(Check.recordOfName(0, 9, "a", 1),
            Check.recordOfName(2, 9, "a", 1)));
    }

    private static void wordsLedBackTo() {
        good("a word of an ASK", b(4, 2, 1, 'a', 1, 128 + 2, 0, 0));
        good("a word of an ANSWER", b(5, 1, 2, 0, 0, 0, 0, 1, 1, 'a', 128 + 8, 0, 0));
        bad("itself", b(3, 128 + 1, 0, 0, 0, 1));
        bad("a place behind it", b(4, 2, 128 + 3, 1, 1, 'a', 0, 0));
        bad("a sign of a word", b(4, 2, 2, 'a', 'b', 1, 128 + 3, 0, 0));
        bad("place 0", b(4, 2, 1, 'a', 1, 128, 0, 0));
        bad("a word led back to", b(4, 2, 1, 'a', 2, 128 + 2, 0, 0, 128 + 5, 0, 0));
        // Both a number of two bytes and a word: the port 1, 'b' at place 6 is no word that was read.
        bad("what is like a word", b(4, 2, 1, 'a', 2, 128 + 2, 1, 'b', 128 + 6, 0, 0));
        int[] ahead = b(5, 5);
        for (int k = 0; k < 3; k++) {
            ahead = Check.join(ahead, Check.recordOfType(0, 9, "type-of-signs-" + k, "name-of-signs-" + k, k));
        }
        // Three records of forty bytes: the fourth begins at 122, its word stands at 128.
        int[] fourth = Check.recordOfName(0, 9, "z", 4);
        bad("the place 128 can't be told", ahead, fourth, b(1, 0, 0, 0, 0, 9, 128), b(0, 5));
        good("but one ahead of it", ahead, fourth, b(1, 0, 0, 0, 0, 9, 128 + 8), b(0, 5));
        good("and the highest one", ahead, fourth, b(1, 0, 0, 0, 0, 9, 128 + 104), b(0, 5));

        // Sixteen words in one packet: the fifteenth stands at 92, and may be led back to.
        int[] many = b(5, 8);
        for (int k = 0; k < 7; k++) {
            many = Check.join(many, Check.recordOfType(0, 9, "" + k, "" + (char) ('a' + k), k));
        }
        good("the fifteenth word", many, b(2, 0, 0, 0, 0, 9, 1, 'z', 128 + 92, 0, 1));
        good("the fourteenth word", many, b(2, 0, 0, 0, 0, 9, 1, 'z', 128 + 82, 0, 1));
        bad("none", many, b(2, 0, 0, 0, 0, 9, 1, 'z', 128 + 83, 0, 1));

        CableNames y = new CableNames();
        y.on(0, 1);
        CHECK.same("6.: a word at 8", Check.give(y, 0, Check.answer(Check.recordOfName(0, 9, "abc", 1))), 0);
        CHECK.same("6.: in another packet it is none", Check.give(y, 0, b(4, 1, 1, 'a', 2, 9, 3, 9, 3)), 0);
        CHECK.same("6.: so it can't be led back to", Check.give(y, 0, b(4, 2, 1, 'a', 2, 130, 0, 1, 136, 0, 1)), 1);

        CableNames x = new CableNames();
        x.on(0, 1);
        Check.give(x, 0, b(5, 2, 2, 0, 0, 0, 0, 9, 3, 'a', 'B', 'c', 128 + 8, 0, 7, 1, 0, 0, 0, 0, 9, 128 + 8, 0, 5));
        CHECK.same("6.: the word of the second", x.entry(0, 1, 4), 3);
        Check.ask(x, 0, 1, "AbC");
        CHECK.same("6.: is the very word", x.answers(0, 0), 1);
        Check.ask(x, 0, 2, "abc");
        CHECK.same("6.: the service's name", x.found(0, 1, 0, 2), 3);
    }

    private static void everyCutIsUnreadable() {
        int[][] packets = {
            b(1, 0, 0, 0, 1), b(2, 0, 0, 0, 1), Check.join(b(3), Check.word("abc"), b(0, 0, 0, 1)),
            b(4, 1, 1, 'a', 2, 0, 0, 0, 1), b(4, 2, 1, 'a', 1, 1, 'n', 0, 1),
            Check.answer(Check.recordOfName(1, 9, "abc", 1), Check.recordOfType(0, 9, "t", "n", 1)),
        };
        for (int[] packet : packets) {
            CHECK.same("6.: whole", take(packet), 0);
            for (int length = 0; length < packet.length; length++) {
                CHECK.same("6.: cut to " + length, take(java.util.Arrays.copyOf(packet, length)), 1);
            }
            CHECK.same("6.: a byte behind", take(java.util.Arrays.copyOf(packet, packet.length + 1)), 1);
        }
    }

    private static void anyBytes() {
        java.util.Random random = new java.util.Random(1);
        for (int run = 0; run < 20000; run++) {
            int[] bytes = new int[random.nextInt(201)];
            for (int k = 0; k < bytes.length; k++) {
                bytes[k] = random.nextInt(random.nextBoolean() ? 256 : 9);
            }
            if (bytes.length > 0) {
                bytes[0] = 1 + random.nextInt(5);
            }
            int answer = take(bytes);
            CHECK.yes("14: any bytes", answer == 0 || answer == 1);
        }
    }
}
