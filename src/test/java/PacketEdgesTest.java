import java.util.Arrays;

/** Terms 6 (packets): every limit that they name, on both sides, as read and as written. */
final class PacketEdgesTest {
    private static final Check CHECK = new Check("PacketEdgesTest");
    private static final String LONGEST = "fifteen-signs-x";

    public static void main(String[] args) {
        kinds();
        addresses();
        ids();
        lengthsOfWords();
        signsOfWords();
        sorts();
        howManyInAnAsk();
        howManyInAnAnswer();
        uniqueIsOneOrNought();
        lives();
        ports();
        placesOfWords();
        placeBelow128();
        longestWordAgain();
        cutAndByteBehind();
        whatIsBehindTheEnd();
        twoHundredBytes();
        nothingOfAnUnreadableOne();
        theVeryWordIsWritten();
        wordsOfAnotherPacket();
        CHECK.done();
    }

    private static int[] b(int... bytes) {
        return bytes;
    }

    private static CableNames host() {
        CableNames x = new CableNames();
        x.on(0, 1);
        return x;
    }

    /** An unreadable one is counted, and nothing else comes of it: it is as if it had no byte at all. */
    private static void reads(String what, boolean readable, int[]... parts) {
        CableNames x = host();
        CHECK.same("6.: " + what, Check.give(x, 0, Check.join(parts)), readable ? 0 : 1);
        CHECK.same("6.: " + what + ", counted", x.look(0, 11), readable ? 0 : 1);
        CHECK.same("6.: " + what + ", the tape", Seen.tapeLength(x), 0);
        if (!readable) {
            CableNames y = host();
            y.give(0);
            CHECK.alike("6.: " + what + ", nothing comes of it", x, y);
        }
    }

    private static void kinds() {
        for (int kind = 0; kind < 256; kind++) {
            reads("kind " + kind + " of five bytes", kind == 1 || kind == 2, b(kind, 0, 9, 0, 9));
            reads("kind " + kind + " of a word", kind == 3, b(kind, 1, 'a', 0, 9, 0, 9));
            reads("kind " + kind + " of a sort", kind == 4, b(kind, 1, 2, 'a', 'b', 0));
            reads("kind " + kind + " of a record", kind == 5, b(kind), b(1), Check.recordOfName(0, 9, "a", 9));
        }
        reads("no byte", false);
    }

    private static void addresses() {
        for (int address : new int[] {0, 1, 255, 256, 65022, 65023, 65024, 65279, 65280, 65535}) {
            boolean is = address <= 65023;
            int[] pair = Check.pair(address);
            reads("APROBE of " + address, is, b(1), pair, b(0, 9));
            reads("ATELL of " + address, is, b(2), pair, b(0, 9));
            reads("NPROBE with " + address, is, b(3, 1, 'a'), pair, b(0, 9));
            reads("ASK with " + address, is, b(4, 1, 1, 'a', 1), pair);
            reads("ASK with a second one, " + address, is, b(4, 1, 1, 'a', 2, 0, 0), pair);
            reads("ANSWER with " + address, is, Check.answer(Check.recordOfName(0, 9, "a", address)));
            if (is) {
                CableNames x = host();
                Check.give(x, 0, Check.answer(Check.recordOfName(0, 9, "a", address)));
                CHECK.same("6.: told as " + address, x.entry(0, 0, 1), address);
            }
        }
    }

    private static void ids() {
        for (int id : new int[] {0, 1, 255, 256, 65535}) {
            reads("APROBE by " + id, true, b(1, 0, 9), Check.pair(id));
            reads("ATELL by " + id, true, b(2, 0, 9), Check.pair(id));
            reads("NPROBE by " + id, true, b(3, 1, 'a', 0, 9), Check.pair(id));
        }
    }

    private static void lengthsOfWords() {
        for (int length = 0; length < 128; length++) {
            int[] word = new int[length + 1];
            Arrays.fill(word, 'w');
            word[0] = length;
            boolean is = length >= 1 && length <= 15;
            reads("NPROBE of " + length + " signs", is, b(3), word, b(0, 9, 0, 9));
            reads("ASK of " + length + " signs", is, b(4, 1), word, b(0));
            reads("ASK with a name of " + length, is, b(4, 2, 1, 'a', 1), word, b(0, 9));
            reads("ANSWER of " + length + " signs", is, b(5, 1, 1, 0, 0, 0, 0, 9), word, b(0, 9));
            reads("ANSWER with a name of " + length, is, b(5, 1, 2, 0, 0, 0, 0, 9, 1, 'a'), word, b(0, 9));
        }
        CableNames x = host();
        for (int length = 1; length <= 15; length++) {
            Check.give(x, 0, Check.answer(Check.recordOfName(0, 9, LONGEST.substring(0, length), 1)));
            CHECK.same("6.: as many signs as told", x.entry(0, length - 1, 4), length);
        }
    }

    private static void signsOfWords() {
        for (int sign = 0; sign < 256; sign++) {
            boolean is = sign >= 'A' && sign <= 'Z' || sign >= 'a' && sign <= 'z' || sign >= '0' && sign <= '9'
                || sign == '-';
            reads("first sign " + sign, is, b(4, 1, 1, sign, 0));
            reads("last sign " + sign, is, b(4, 1, 3, 'a', 'b', sign, 0));
            reads("a sign of a name " + sign, is, b(4, 2, 1, 'a', 1, 2, sign, 'z', 0, 0));
        }
    }

    private static void sorts() {
        for (int sort = 0; sort < 256; sort++) {
            boolean is = sort == 1 || sort == 2;
            reads("ASK of sort " + sort, is, b(4, sort, 1, 'a', 0));
            reads("ANSWER of sort " + sort + " with an address", sort == 1, b(5, 1, sort, 0, 0, 0, 0, 9, 1, 'a', 0, 9));
            reads("ANSWER of sort " + sort + " with a service", sort == 2,
                b(5, 1, sort, 0, 0, 0, 0, 9, 1, 'a', 1, 'n', 0, 9));
        }
        reads("ASK of sort 1 with a service", false, b(4, 1, 1, 'a', 1, 1, 'n', 0, 9));
        reads("ASK of sort 2 with an address", false, b(4, 2, 1, 'a', 1, 0, 9));
    }

    private static void howManyInAnAsk() {
        for (int many = 0; many < 12; many++) {
            int[] services = b();
            for (int k = 0; k < many; k++) {
                services = Check.join(services, b(1, 'n', 0, k));
            }
            reads("ASK with " + many + " addresses", many <= 8, b(4, 1, 1, 'a', many), new int[2 * many]);
            reads("ASK with " + many + " services", many <= 8, b(4, 2, 1, 'a', many), services);
            reads("ASK with one less than " + (many + 1), false, b(4, 1, 1, 'a', many + 1), new int[2 * many]);
            reads("ASK with one more than " + many, false, b(4, 1, 1, 'a', many), new int[2 * many + 2]);
        }
        for (int many : new int[] {9, 127, 128, 130, 255}) {
            reads("ASK with " + many, false, b(4, 1, 1, 'a', many));
        }
    }

    private static void howManyInAnAnswer() {
        for (int many = 0; many < 12; many++) {
            int[] records = b();
            for (int k = 0; k < many; k++) {
                records = Check.join(records, k % 2 == 0 ? Check.recordOfName(0, 9, "a", k)
                    : Check.recordOfType(0, 9, "t", "n", k));
            }
            reads("ANSWER of " + many, many >= 1 && many <= 8, b(5, many), records);
            reads("ANSWER of one less than told, " + many, false, b(5, many + 1), records);
            reads("ANSWER of one more than told, " + many, false, b(5, many), records, Check.recordOfName(0, 9, "a", 9));
            if (many >= 1 && many <= 8) {
                CableNames x = host();
                Check.give(x, 0, Check.join(b(5, many), records));
                CHECK.same("6.: all of " + many, x.look(0, 8), many);
            }
        }
        for (int many : new int[] {127, 128, 136, 255}) {
            reads("ANSWER of " + many, false, b(5, many));
        }
    }

    private static void uniqueIsOneOrNought() {
        for (int unique = 0; unique < 256; unique++) {
            reads("unique " + unique, unique <= 1, Check.answer(Check.recordOfName(unique, 9, "a", 1)));
            reads("unique " + unique + " of sort 2", unique <= 1, Check.answer(Check.recordOfType(unique, 9, "a", "n", 1)));
        }
    }

    private static void lives() {
        for (int life : new int[] {0, 1, 255, 256, 65535, 65536, 16777215, 16777216, Integer.MAX_VALUE, 0x7fff0000}) {
            reads("life " + life, true, Check.answer(Check.recordOfName(0, life, "a", 1)));
            CableNames x = host();
            Check.give(x, 0, Check.answer(Check.recordOfName(0, life, "a", 1)));
            CHECK.same("6.: told as " + life, x.entry(0, 0, 2), life == 0 ? -1 : life);
        }
        for (int life : new int[] {Integer.MIN_VALUE, Integer.MIN_VALUE + 1, -1, -2, -65536}) {
            reads("life of the highest bit " + life, false, Check.answer(Check.recordOfName(0, life, "a", 1)));
        }
    }

    private static void ports() {
        for (int port : new int[] {0, 1, 255, 256, 65023, 65024, 65535}) {
            reads("ASK with port " + port, true, b(4, 2, 1, 'a', 1, 1, 'n'), Check.pair(port));
            CableNames x = host();
            Check.give(x, 0, Check.answer(Check.recordOfType(0, 9, "a", "n", port)));
            CHECK.same("6.: told as " + port, x.entry(0, 0, 1), port);
        }
    }

    /** In an ASK the word stands at 2, a name of two signs at 6, the next name at 11: its byte may be 130 or 134. */
    private static void placesOfWords() {
        for (int first = 128; first < 256; first++) {
            reads("led back by " + first, first == 128 + 2 || first == 128 + 6,
                b(4, 2, 2, 'a', 'b', 2, 2, 'n', 'o', 0, 9, first, 0, 9));
            reads("the first word led back by " + first, false, b(3, first, 0, 9, 0, 9));
            reads("a word of an ASK led back by " + first, false, b(4, 1, first, 0));
        }
        // What was led back to at 6 is no word told by its signs.
        for (int first = 128; first < 256; first++) {
            reads("led back to one that leads back by " + first, first == 128 + 2,
                b(4, 2, 2, 'a', 'b', 2, 128 + 2, 0, 9, first, 0, 9));
        }
    }

    /** Three records of 30 bytes, and one by whose name the word behind it stands at the place. */
    private static void placeBelow128() {
        for (int place = 126; place <= 129; place++) {
            int[] ahead = b(5, 6);
            for (int k = 0; k < 3; k++) {
                ahead = Check.join(ahead, Check.recordOfType(0, 9, "type-of-signs-" + k, "name" + k, k));
            }
            String name = LONGEST.substring(0, place - 123);
            ahead = Check.join(ahead, Check.recordOfType(0, 9, "type-of-signs-3", name, 3));
            CHECK.same("6.: where the word stands", ahead.length + 6, place);
            int[] far = Check.recordOfName(0, 9, "far", 4);
            int[] head = Check.join(b(1, 0), Check.four(9));
            for (int first = 128 + 115; first < 256; first++) {
                reads("a word at " + place + " led back by " + first, first == 128 + place, ahead, far, head,
                    b(first, 0, 5));
            }
            reads("told by one byte, " + place, place < 128, ahead, far, head, b((128 + place) & 255, 0, 5));
            reads("the first word", true, ahead, far, head, b(128 + 8, 0, 5));
        }
    }

    private static void longestWordAgain() {
        for (int length = 1; length <= 15; length++) {
            String word = LONGEST.substring(0, length);
            CableNames x = host();
            int[] again = b(1, 0, 0, 0, 0, 9, 128 + 8, 0, 5);
            Check.give(x, 0, Check.join(b(5, 2), Check.recordOfName(0, 9, word, 1), again));
            CHECK.same("6.: a word of " + length + " led back to", x.entry(0, 1, 4), length);
            Check.ask(x, 0, 1, word.toUpperCase());
            CHECK.same("6.: it is that word", x.answers(0, 0), 2);
        }
    }

    private static void cutAndByteBehind() {
        int[][] packets = {
            b(1, 0, 0, 0, 1), b(2, 0, 0, 0, 1), Check.join(b(3), Check.word(LONGEST), b(0, 0, 0, 1)),
            b(4, 1, 1, 'a', 0), b(4, 1, 1, 'a', 2, 0, 0, 0, 1), b(4, 2, 1, 'a', 2, 1, 'n', 0, 1, 128 + 2, 0, 1),
            Check.answer(Check.recordOfName(1, 9, LONGEST, 1), Check.recordOfType(0, 9, "t", "n", 1)),
        };
        for (int[] packet : packets) {
            reads("whole", true, packet);
            for (int length = 0; length < packet.length; length++) {
                reads("cut to " + length, false, Arrays.copyOf(packet, length));
            }
            for (int behind : new int[] {0, 1, 128, 255}) {
                reads("a byte behind", false, packet, b(behind));
            }
            reads("itself behind", false, packet, packet);
        }
    }

    /** What end() cut is no part of the packet, though it was on the tape. */
    private static void whatIsBehindTheEnd() {
        int[] packet = Check.answer(Check.recordOfName(0, 9, "abc", 1));
        for (int length = 0; length <= packet.length; length++) {
            CableNames x = host();
            Check.tape(x, packet);
            x.end(length);
            CHECK.same("6.: cut by end to " + length, x.give(0), length == packet.length ? 0 : 1);
        }
        CableNames x = host();
        Check.tape(x, Check.join(packet, b(9, 9, 9)));
        x.end(packet.length);
        CHECK.same("6.: bytes behind it cut by end", x.give(0), 0);
    }

    /** Eight records of sort 2: 2 and 8 * 8 bytes, and 134 for sixteen words. */
    private static void twoHundredBytes() {
        int[] packet = b(5, 8);
        for (int k = 0; k < 8; k++) {
            String name = "name-" + k + (k == 7 ? "-longer" : "-");
            packet = Check.join(packet, Check.recordOfType(0, 9, "type-" + k + "-", name, k));
        }
        CHECK.same("6.: so many bytes", packet.length, 200);
        reads("200 bytes", true, packet);
        CableNames x = host();
        Check.give(x, 0, packet);
        CHECK.same("6.: all eight", x.look(0, 8), 8);
        CHECK.same("6.: the last two bytes", x.entry(0, 7, 1), 7);
        reads("199 bytes", false, Arrays.copyOf(packet, 199));
        // As long as the tape, but with more told than it can have: nothing is read beyond it.
        int[] longer = b(5, 8);
        for (int k = 0; k < 8; k++) {
            longer = Check.join(longer, Check.recordOfType(0, 9, "type-of-signs-" + k, "name-of-signs-" + k, k));
        }
        for (int from = 0; from < 40; from++) {
            int[] bytes = Check.join(b(5, 8), Arrays.copyOfRange(longer, 2 + from, 2 + from + 198));
            reads("200 bytes of a longer one, " + from, false, bytes);
        }
        for (int last = 1; last <= 40; last++) {
            // The header of a record begins so far ahead of the end.
            String name = LONGEST.substring(0, 1 + last % 15);
            int[] bytes = Check.join(b(5, 8), Check.recordOfName(0, 9, name, 1));
            while (bytes.length < 200) {
                bytes = Check.join(bytes, Check.recordOfType(0, 9, name, LONGEST, 1));
            }
            reads("200 bytes, the last record is cut", false, Arrays.copyOf(bytes, 200));
        }
    }

    /** Two good records and one that is none: neither of the good ones comes. */
    private static void nothingOfAnUnreadableOne() {
        CableNames x = host();
        x.go(700);
        Check.claim(x, 0, "n");
        Check.give(x, 0, Check.answer(Check.recordOfName(0, 9000, "n", 1), Check.recordOfName(0, 9000, "m", 1),
            Check.recordOfName(2, 9, "k", 1)));
        CHECK.same("6.: no entry", x.look(0, 8), 0);
        CHECK.same("6.: no conflict", x.look(0, 5), 0);
        CHECK.same("6.: counted once", x.look(0, 11), 1);
        int told = x.count(1);
        Check.give(x, 0, b(1, 1, 1, 0, 9, 0));
        Check.give(x, 0, b(2, 1, 1, 0, 9, 0));
        CHECK.same("6.: its address is not defended", x.count(1), told);
        CHECK.same("6.: counted thrice", x.look(0, 11), 3);
    }

    /** Words that begin alike, or differ in great and small letters, are not the very word. */
    private static void theVeryWordIsWritten() {
        CableNames x = host();
        Check.claim(x, 0, "lamps");
        Check.service(x, 0, "lamp", 1);
        Check.service(x, 0, "lampshade", 2);
        Check.service(x, 0, "Lamps", 3);
        Check.service(x, 0, "lamp", 4);
        x.go(1394);
        int[] head = Check.join(b(2, 0), Check.four(120000));
        int[] due = Check.join(b(5, 5), Check.recordOfName(1, 120000, "lamps", 257),
            head, Check.word("lamp"), b(128 + 8, 0, 1), head, Check.word("lampshade"), b(128 + 8, 0, 2),
            head, Check.word("Lamps"), b(128 + 8, 0, 3), head, b(128 + 22, 128 + 8, 0, 4));
        CHECK.sent("6.: written", x, due);
        // The bytes of a port may be those of a word, but are no word.
        CableNames z = host();
        Check.claim(z, 0, "n");
        Check.service(z, 0, "a", 1 << 8 | 'b');
        Check.service(z, 0, "b", 1 << 8 | 'c');
        Check.service(z, 0, "c", 1 << 8 | 'n');
        z.go(1394);
        CHECK.sent("6.: words and ports", z, Check.join(b(5, 4), Check.recordOfName(1, 120000, "n", 257),
            head, b(1, 'a', 128 + 8, 1, 'b'), head, b(1, 'b', 128 + 8, 1, 'c'), head, b(1, 'c', 128 + 8, 1, 'n')));
        // The first one of two places at which a word was read leads back in the same way.
        CableNames y = host();
        Check.give(y, 0, Check.answer(Check.recordOfType(0, 9000, "q", "q", 1), Check.recordOfType(0, 9000, "q", "Q", 2),
            Check.recordOfType(0, 9000, "q", "q", 3), Check.recordOfType(0, 9000, "q", "Q", 4)));
        Check.ask(y, 0, 2, "q");
        y.go(31);
        CHECK.sent("6.: the name is the word of the ASK", y, 4, 2, 1, 'q', 4, 130, 0, 1, 1, 'Q', 0, 2, 130, 0, 3,
            128 + 8, 0, 4);
    }

    /** The ASK at 2371 has words at 2, 5 and 21; in the ANSWER at 2394 a port like a word stands at 21. */
    private static void wordsOfAnotherPacket() {
        CableNames x = host();
        Check.claim(x, 0, "n");
        Check.service(x, 0, "a", 1 << 8 | 'b');
        Check.service(x, 0, "b", 9);
        x.go(2340);
        Check.give(x, 0, Check.answer(Check.recordOfType(0, 9000, "q", "thirteen-sign", 1),
            Check.recordOfType(0, 9000, "q", "z", 2)));
        Check.ask(x, 0, 2, "q");
        x.go(31);
        CHECK.sent("6.: the one ahead", x, Check.join(b(4, 2, 1, 'q', 2), Check.word("thirteen-sign"),
            b(0, 1, 1, 'z', 0, 2)));
        x.go(23);
        int[] head = Check.join(b(2, 0), Check.four(120000));
        CHECK.sent("6.: its places are none of this one", x, Check.join(b(5, 3),
            Check.recordOfName(1, 120000, "n", 257), head, b(1, 'a', 128 + 8, 1, 'b'), head, b(1, 'b', 128 + 8, 0, 9)));
    }
}
