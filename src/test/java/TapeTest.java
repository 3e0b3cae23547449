/** Promises 1 (a new object), 2 (feed) and 3 (end). */
final class TapeTest {
    private static final Check CHECK = new Check("TapeTest");

    public static void main(String[] args) {
        newObject();
        feedCountsAndRefuses();
        feedPutsTheHighestByteFirst();
        endCutsAndRefuses();
        CHECK.done();
    }

    private static void newObject() {
        CableNames x = new CableNames();
        for (int host = 0; host < 8; host++) {
            for (int what = 0; what < 12; what++) {
                CHECK.same("1: look(" + host + ", " + what + ")", x.look(host, what), what == 2 ? -1 : 0);
            }
        }
        for (int what = 0; what < 10; what++) {
            CHECK.same("1: count(" + what + ")", x.count(what), 0);
        }
        CHECK.same("1: count(10)", x.count(10), -1);
        CHECK.same("1: the tape is empty", x.end(1), -1);
        CHECK.same("1: nothing was sent", x.sent(0), -1);
        CHECK.same("1: nobody holds 0", x.holders(0), 0);
    }

    private static void feedCountsAndRefuses() {
        CableNames x = new CableNames();
        for (int k = 1; k <= 10; k++) {
            CHECK.same("2: feed " + k, x.feed(-1, 0, 1, Integer.MIN_VALUE, Integer.MAX_VALUE), 20 * k);
        }
        CHECK.same("2: a full tape", x.feed(0, 0, 0, 0, 0), -1);
        CHECK.same("2: none came", x.end(200), 200);
        CHECK.same("2: it has no more", x.end(201), -1);
        CHECK.same("2: one too many", x.end(181), 181);
        CHECK.same("2: one too many is refused", x.feed(0, 0, 0, 0, 0), -1);
        CHECK.same("2: none of it came", x.end(182), -1);
        CHECK.same("2: just room", x.end(180), 180);
        CHECK.same("2: just room is taken", x.feed(0, 0, 0, 0, 0), 200);
        x.end(3);
        CHECK.same("2: behind what is there", x.feed(0, 0, 0, 0, 0), 23);
    }

    private static void feedPutsTheHighestByteFirst() {
        CableNames x = new CableNames();
        x.on(0, 1);
        x.go(1000);
        x.feed('a' << 24 | 'b' << 16 | 'c' << 8 | 'd', 'e' << 24 | 'f' << 16 | 'g' << 8 | 'h',
            'i' << 24 | 'j' << 16 | 'k' << 8 | 'l', 'm' << 24 | 'n' << 16 | 'o' << 8 | 'p', 0);
        CHECK.same("2: end", x.end(15), 15);
        CHECK.yes("2: a word of four numbers", x.claim(0));
        CHECK.named("2: its signs", x, 0, "abcdefghijklmno");
        x.on(1, 2);
        x.go(1000);
        x.feed('x' << 24, 0, 0, 0, 0);
        x.end(1);
        x.feed('y' << 24 | 'z' << 16, 0, 0, 0, 0);
        x.end(3);
        CHECK.yes("2: a word of two feeds", x.claim(1));
        CHECK.named("2: one behind the other", x, 1, "xyz");
        // Bytes from 128 on: the address 64000 is the bytes 250 and 0.
        Check.tape(x, Check.join(Check.bytes(5, 1), Check.recordOfName(0, 0x7fe1c2f3, "k", 64000)));
        CHECK.same("2: bytes above 127", x.give(0), 0);
        int last = x.look(0, 8) - 1;
        CHECK.same("2: life of high bytes", x.entry(0, last, 2), 0x7fe1c2f3);
        CHECK.same("2: address of high bytes", x.entry(0, last, 1), 64000);
    }

    private static void endCutsAndRefuses() {
        CableNames x = new CableNames();
        CHECK.same("3: empty", x.end(0), 0);
        CHECK.same("3: beyond an empty one", x.end(1), -1);
        x.feed(0, 0, 0, 0, 0);
        CHECK.same("3: below 0", x.end(-1), -1);
        CHECK.same("3: far below 0", x.end(Integer.MIN_VALUE), -1);
        CHECK.same("3: beyond", x.end(21), -1);
        CHECK.same("3: far beyond", x.end(Integer.MAX_VALUE), -1);
        CHECK.same("3: all of it, so nothing was done", x.end(20), 20);
        CHECK.same("3: less", x.end(7), 7);
        CHECK.same("3: what is cut is gone", x.end(8), -1);
        CHECK.same("3: none", x.end(0), 0);
    }
}
