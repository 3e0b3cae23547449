import java.util.NoSuchElementException;

/**
 * Promises 1 to 22: each sentence that says what is too small, too large, no such, not open, full or refused, on
 * both sides of its edge. A refused call is made on one of two cables that are alike: they stay alike.
 */
final class PromiseEdgesTest {
    private static final Check CHECK = new Check("PromiseEdgesTest");
    private static final int NONE = CableNames.NONE;
    private static final int[] NO_HOSTS = {-1, 8, 9, 256, Integer.MIN_VALUE, Integer.MAX_VALUE};
    private static final int[] OFF = {5, 6};
    private static final String LONGEST = "fifteen-signs-x";
    private static final String[] NO_WORDS = {"", "sixteen-signs-xx", "a-tape-of-twenty-xyz", "ab@", "ab[", "ab`", "ab{",
        "ab/", "ab:", "ab,", "ab.", "ab ", "ab_", "!ab", "a!b", "ab" + (char) 0, "ab" + (char) 127, "ab" + (char) 128,
        "ab" + (char) 173, "ab" + (char) 193, "ab" + (char) 255};
    private static final String[] WORDS = {"x", LONGEST, "A", "Z", "a", "z", "0", "9", "-", "--", "AZ-az-09"};

    private interface Call {
        int of(CableNames x);
    }

    public static void main(String[] args) {
        newObject();
        feedIsFull();
        endHasNotSoMany();
        onRefuses();
        offRefuses();
        offPolitely();
        claimRefuses();
        serviceRefuses();
        serviceIsNotTold();
        askRefuses();
        closeRefuses();
        goRefuses();
        splitReadsEightBits();
        joinOfHoldersAlone();
        joinOfNameHoldersAlone();
        loseRefuses();
        losesAThousand();
        giveRefuses();
        lookThrows();
        signsThatAreNone();
        answersThatAreNone();
        foundThatIsNone();
        entriesThatAreNone();
        countsThatAreNone();
        holdersOfNoAddress();
        bytesThatAreNone();
        CHECK.done();
    }

    /**
     * Host 0 holds its name, has two services and a question, and is to lose two packets; host 1 holds its name and
     * has four of each; host 2 probes its name; the name of host 3 waits; host 4 wants none; 5 and 6 are off, 6 was
     * on; host 7 is in the other part with a full cache. A packet is in the queue.
     */
    private static CableNames crowd(String tape) {
        CableNames x = new CableNames();
        x.split(128);
        x.on(0, 1);
        Check.claim(x, 0, "box");
        Check.service(x, 0, "lamp", 1);
        Check.service(x, 0, "lamp", 2);
        x.on(1, 2);
        Check.claim(x, 1, "full");
        x.on(4, 5);
        x.on(6, 6);
        x.on(7, 7);
        x.go(5000);
        x.off(6, false);
        for (int k = 0; k < 4; k++) {
            Check.service(x, 1, "t" + k, k);
            Check.ask(x, 1, 1 + k % 2, "lamp");
        }
        Check.ask(x, 0, 2, "t0");
        fillCache(x, 7);
        x.on(2, 3);
        x.go(1000);
        Check.claim(x, 2, "new");
        x.go(50);
        x.on(3, 300);
        Check.claim(x, 3, "late");
        x.lose(0, 2);
        Check.give(x, 4, Check.bytes(1, 5, 5, 0, 9));
        Check.tape(x, tape);
        return x;
    }

    private static void fillCache(CableNames x, int host) {
        for (int k = 0; k < 24; k++) {
            Check.give(x, host, Check.answer(Check.recordOfName(0, 3000 + k, "w", k)));
        }
    }

    private static int bit(boolean value) {
        return value ? 1 : 0;
    }

    /** The call answers so, and nothing comes of it: neither now nor later, nor is the tape another one. */
    private static void refused(String what, String tape, int due, Call call) {
        CableNames x = crowd(tape);
        CableNames y = crowd(tape);
        CHECK.same(what, call.of(x), due);
        CHECK.alike(what + ", at once", x, y);
        claimTape(x);
        claimTape(y);
        for (int length : new int[] {0, 1, 99, 900, 4000, 20000}) {
            x.go(length);
            y.go(length);
            CHECK.alike(what + ", later", x, y);
        }
    }

    /** What is on the tape is seen as the name of host 4, as far as it is a word. */
    private static void claimTape(CableNames x) {
        for (int n = Math.min(15, Seen.tapeLength(x)); n > 0; n--) {
            x.end(n);
            if (x.claim(4)) {
                return;
            }
        }
    }

    private static void refusedOfHosts(String what, int due, java.util.function.IntFunction<Call> callOf) {
        for (int host : NO_HOSTS) {
            refused(what + ", no such host, " + host, "word", due, callOf.apply(host));
        }
        for (int host : OFF) {
            refused(what + ", host " + host + " is off", "word", due, callOf.apply(host));
        }
    }

    // ---- 1 to 3: the tape ----

    private static void newObject() {
        CableNames x = new CableNames();
        for (int host = 0; host < 8; host++) {
            CHECK.same("1: host " + host + " is off", x.look(host, 0), 0);
            CHECK.same("1: host " + host + " is in part 0", x.look(host, 9), 0);
            CHECK.no("1: so it can't go off", x.off(host, false));
        }
        CHECK.same("1: time 0", x.count(0), 0);
        CHECK.same("1: no byte on the tape", Seen.tapeLength(x), 0);
        CHECK.same("1: an object of its own", crowd("ab").end(2) + x.end(2), 2 + NONE);
        x.go(20000);
        CHECK.same("1: nothing happens by itself", x.count(1), 0);
    }

    private static void feedIsFull() {
        String text = "word" + "+".repeat(176);
        CableNames x = crowd(text);
        CHECK.same("2: with 180 there is room for twenty", x.feed(1, 2, 3, 4, 5), 200);
        CHECK.same("2: they came", Seen.tapeLength(x), 200);
        for (int more = 1; more <= 20; more++) {
            refused("2: with " + (180 + more), text + "+".repeat(more), NONE, y -> y.feed(-1, -1, -1, -1, -1));
        }
        CHECK.same("2: an empty one has twenty then", crowd("").feed(0, 0, 0, 0, 0), 20);
    }

    private static void endHasNotSoMany() {
        for (int n : new int[] {-1, -2, Integer.MIN_VALUE, 5, 6, 20, 200, 201, Integer.MAX_VALUE}) {
            refused("3: end of " + n, "word", NONE, x -> x.end(n));
        }
        refused("3: just so many", "word", 4, x -> x.end(4));
        refused("3: none of none", "", 0, x -> x.end(0));
        refused("3: one of none", "", NONE, x -> x.end(1));
        CableNames x = crowd("word");
        CHECK.same("3: one less", x.end(3), 3);
        CHECK.same("3: it has three", Seen.tapeLength(x), 3);
        CHECK.yes("3: the first ones", x.claim(4));
        CHECK.named("3: the first ones", x, 4, "wor");
        x.feed(0, 0, 0, 0, 0);
        CHECK.same("3: none of twenty", x.end(0), 0);
        CHECK.same("3: it is empty", Seen.tapeLength(x), 0);
    }

    // ---- 4 and 5: on and off ----

    private static void onRefuses() {
        for (int host : NO_HOSTS) {
            refused("4: no such host, " + host, "word", 0, x -> bit(x.on(host, 9)));
        }
        for (int id : new int[] {0, -1, 65536, 65537, Integer.MIN_VALUE, Integer.MAX_VALUE}) {
            refused("4: no such id, " + id, "word", 0, x -> bit(x.on(5, id)));
        }
        for (int host : new int[] {0, 1, 2, 3, 4, 7}) {
            refused("4: host " + host + " is on", "word", 0, x -> bit(x.on(host, 9)));
            refused("4: host " + host + " is on with this id", "word", 0, x -> bit(x.on(host, x.look(host, 1))));
            refused("4: host " + host + " has this id", "word", 0, x -> bit(x.on(5, x.look(host, 1))));
        }
        for (int id : new int[] {1, 2, 65534, 65535}) {
            CableNames x = new CableNames();
            CHECK.yes("4: host 0 with id " + id, x.on(0, id));
            CHECK.same("4: its id", x.look(0, 1), id);
            CHECK.yes("4: host 7 with another id", x.on(7, id == 65535 ? 1 : id + 1));
            CHECK.no("4: host 6 with that id", x.on(6, id));
            x.off(0, true);
            CHECK.yes("4: one that is off has no id", x.on(6, id));
            CHECK.no("4: not even its own then", x.on(0, id));
        }
    }

    private static void offRefuses() {
        refusedOfHosts("5: politely", 0, host -> x -> bit(x.off(host, true)));
        refusedOfHosts("5: without a word", 0, host -> x -> bit(x.off(host, false)));
        for (int host : new int[] {0, 1, 2, 3, 4, 7}) {
            CableNames x = crowd("word");
            CHECK.yes("5: host " + host, x.off(host, host % 2 == 0));
            CHECK.same("5: it is off", x.look(host, 0), 0);
            CHECK.no("5: once", x.off(host, true));
        }
    }

    private static void offPolitely() {
        for (int host : new int[] {0, 1, 2, 3, 4}) {
            CableNames x = crowd("word");
            int name = x.look(host, 4);
            int sent = x.count(1);
            x.off(host, true);
            CHECK.same("5: a packet of one whose name is " + name, x.count(1) - sent, name == 3 ? 1 : 0);
            CableNames y = crowd("word");
            y.off(host, false);
            CHECK.same("5: none without a word", y.count(1), sent);
        }
        CableNames x = crowd("word");
        int heard = x.count(3);
        x.off(1, true);
        CHECK.same("5: five records", x.sent(1), 5);
        CHECK.same("5: it is heard by go", x.count(3), heard);
        x.go(0);
        // The packet of host 4 goes to 0, 2 and 3, that of host 1 to 0, 2, 3 and 4; host 0 loses both.
        CHECK.same("5: by those of its part", x.count(3), heard + 2 + 3);
        CHECK.same("5: host 0 loses them", x.count(4), 2);
    }

    // ---- 6 to 9: what hosts are told ----

    private static void claimRefuses() {
        refusedOfHosts("6", 0, host -> x -> bit(x.claim(host)));
        for (int host = 0; host < 4; host++) {
            int it = host;
            refused("6: host " + host + " has one", "word", 0, x -> bit(x.claim(it)));
        }
        for (String text : NO_WORDS) {
            refused("6: no word, " + text, text, 0, x -> bit(x.claim(7)));
        }
        for (String text : WORDS) {
            CableNames x = crowd(text);
            CHECK.yes("6: a word, " + text, x.claim(7));
            CHECK.same("6: the tape is empty then", Seen.tapeLength(x), 0);
            CHECK.named("6: its signs", x, 7, text);
            Check.tape(x, "word");
            CHECK.no("6: it has one then", x.claim(7));
        }
    }

    private static void serviceRefuses() {
        refusedOfHosts("7", NONE, host -> x -> x.service(host, 9));
        for (int port : new int[] {-1, 65536, 65537, Integer.MIN_VALUE, Integer.MAX_VALUE}) {
            refused("7: no such port, " + port, "word", NONE, x -> x.service(0, port));
        }
        for (String text : NO_WORDS) {
            refused("7: no word, " + text, text, NONE, x -> x.service(0, 9));
        }
        refused("7: it has four", "word", NONE, x -> x.service(1, 9));
        for (int port : new int[] {0, 1, 65534, 65535}) {
            CableNames x = crowd("word");
            CHECK.same("7: the third, port " + port, x.service(0, port), 3);
            CHECK.same("7: the tape is empty then", Seen.tapeLength(x), 0);
            CHECK.same("7: the fourth", Check.service(x, 0, "word", port), 4);
            CHECK.same("7: no fifth", Check.service(x, 0, "word", port), NONE);
            CHECK.same("7: four", x.look(0, 6), 4);
        }
        for (String text : WORDS) {
            CHECK.same("7: a word, " + text, crowd(text).service(4, 9), 1);
        }
    }

    private static void serviceIsNotTold() {
        CableNames x = crowd("word");
        CableNames y = crowd("word");
        x.go(20000);
        y.go(20000);
        Check.service(x, 0, "word", 9);
        CHECK.same("7: nothing is sent", x.count(1), y.count(1));
        x.go(5000);
        y.go(5000);
        CHECK.same("7: nor later", x.count(9), y.count(9));
        x.off(0, true);
        CHECK.same("7: it is one of its records", x.sent(1), 4);
    }

    private static void askRefuses() {
        refusedOfHosts("8", NONE, host -> x -> x.ask(host, 1));
        for (int sort : new int[] {0, -1, 3, Integer.MIN_VALUE, Integer.MAX_VALUE}) {
            refused("8: no such sort, " + sort, "word", NONE, x -> x.ask(0, sort));
        }
        for (String text : NO_WORDS) {
            refused("8: no word, " + text, text, NONE, x -> x.ask(0, 1));
        }
        refused("8: four are open", "word", NONE, x -> x.ask(1, 1));
        for (int sort = 1; sort <= 2; sort++) {
            for (int free = 0; free < 4; free++) {
                CableNames x = crowd("word");
                x.close(1, free);
                x.close(1, 3);
                CHECK.same("8: the least that is free", x.ask(1, sort), free);
                CHECK.same("8: the tape is empty then", Seen.tapeLength(x), 0);
                CHECK.same("8: then the other one, if there is one", Check.ask(x, 1, sort, "w"), free == 3 ? NONE : 3);
                CHECK.same("8: no fifth", Check.ask(x, 1, sort, "w"), NONE);
            }
        }
        for (String text : WORDS) {
            CHECK.same("8: a word, " + text, crowd(text).ask(0, 2), 1);
        }
    }

    private static void closeRefuses() {
        refusedOfHosts("9", 0, host -> x -> bit(x.close(host, 0)));
        for (int question : new int[] {-1, 1, 2, 3, 4, 5, Integer.MIN_VALUE, Integer.MAX_VALUE}) {
            refused("9: host 0, question " + question, "word", 0, x -> bit(x.close(0, question)));
        }
        for (int question : new int[] {-1, 4}) {
            refused("9: host 1, question " + question, "word", 0, x -> bit(x.close(1, question)));
        }
        for (int question = 0; question < 4; question++) {
            CableNames x = crowd("word");
            CHECK.yes("9: question " + question, x.close(1, question));
            CHECK.same("9: three are open", x.look(1, 7), 3);
            CHECK.same("9: it isn't", x.answers(1, question), NONE);
            CHECK.no("9: once", x.close(1, question));
            CHECK.same("9: three still", x.look(1, 7), 3);
        }
    }

    // ---- 10 to 14: the cable ----

    private static void goRefuses() {
        for (int n : new int[] {-1, -20000, 20001, Integer.MIN_VALUE, Integer.MAX_VALUE}) {
            refused("10: go of " + n, "word", NONE, x -> x.go(n));
        }
        CableNames x = crowd("word");
        int heard = x.count(3);
        int time = x.count(0);
        x.go(20001);
        CHECK.same("10: the queue waits still", x.count(3), heard);
        CHECK.same("10: 0 is taken", x.go(0), time);
        CHECK.yes("10: the queue is done", x.count(3) > heard);
        CHECK.same("10: 1", x.go(1), time + 1);
        CHECK.same("10: 19999", x.go(19999), time + 20000);
        CHECK.same("10: 20000", x.go(20000), time + 40000);
        CHECK.same("10: the tape is as it was", Seen.tapeLength(x), 4);
    }

    private static void splitReadsEightBits() {
        CableNames x = crowd("word");
        for (int k = 0; k < 32; k++) {
            x.split(1 << k);
            for (int host = 0; host < 8; host++) {
                CHECK.same("11: bit " + k + ", host " + host, x.look(host, 9), host == k ? 1 : 0);
            }
        }
        x.split(-1);
        for (int host = 0; host < 8; host++) {
            CHECK.same("11: all bits, host " + host, x.look(host, 9), 1);
        }
        x.off(0, false);
        CHECK.same("11: one that goes off keeps its part", x.look(0, 9), 1);
        x.on(0, 1);
        CHECK.same("11: and comes on in it", x.look(0, 9), 1);
        x.join();
        for (int host = 0; host < 8; host++) {
            CHECK.same("12: all are in part 0, host " + host, x.look(host, 9), 0);
        }
    }

    /** Id 1 holds its address at 631, and tells it again at 2631; after a join 31 later, and not again. */
    private static void joinOfHoldersAlone() {
        for (int at : new int[] {0, 30, 31, 630, 631, 2630, 2631, 5000}) {
            CableNames x = new CableNames();
            x.on(0, 1);
            x.go(at);
            int tellings = x.count(6);
            x.join();
            x.go(30);
            int before = at == 2630 || at < 631 && at + 30 >= 631 ? 1 : 0;
            CHECK.same("12: joined at " + at + ", 30 later", x.count(6) - tellings, at < 631 ? before : 0);
            x.go(1);
            CHECK.same("12: joined at " + at + ", 31 later", x.count(6) - tellings, at < 631 ? before : 1);
            x.go(20000);
            CHECK.same("12: joined at " + at + ", all of them", x.count(6), at < 631 ? 2 : at < 2631 ? 2 : 3);
        }
        CableNames y = new CableNames();
        y.on(0, 200);
        y.go(10000);
        y.join();
        y.go(0);
        CHECK.same("12: 31 * 200 modulo 200 is 0: at once", y.count(6), 3);
        CableNames z = new CableNames();
        z.on(0, 129);
        z.go(10000);
        z.join();
        z.go(198);
        CHECK.same("12: 31 * 129 modulo 200 is 199: not at 198", z.count(6), 2);
        z.go(1);
        CHECK.same("12: at 199", z.count(6), 3);
    }

    /** Id 1 holds its address at 631, probes its name from 644 on, holds it at 1394, and tells it again at 2394. */
    private static void joinOfNameHoldersAlone() {
        for (int at : new int[] {643, 1380, 1393, 1394, 2390, 2394, 5000}) {
            CableNames x = new CableNames();
            x.on(0, 1);
            Check.claim(x, 0, "n");
            x.go(at);
            int tellings = x.count(9);
            boolean holds = at >= 1394;
            CHECK.same("12: the name at " + at, x.look(0, 4), holds ? 3 : 2);
            x.join();
            x.go(12);
            CHECK.same("12: 12 later than " + at, x.count(9) - tellings, at == 1393 ? 1 : 0);
            x.go(1);
            CHECK.same("12: 13 later than " + at, x.count(9) - tellings, at == 643 || at == 1380 ? 0 : 1);
            x.go(20000);
            CHECK.same("12: all, joined at " + at, x.count(9), at < 2394 ? 2 : 3);
        }
        CableNames y = new CableNames();
        y.on(0, 173);
        Check.claim(y, 0, "n");
        y.go(10000);
        y.join();
        y.go(248);
        CHECK.same("12: 13 * 173 modulo 250 is 249: not at 248", y.count(9), 2);
        y.go(1);
        CHECK.same("12: at 249", y.count(9), 3);
        CableNames z = new CableNames();
        z.on(0, 250);
        Check.claim(z, 0, "n");
        z.go(10000);
        z.join();
        z.go(0);
        CHECK.same("12: 13 * 250 modulo 250 is 0: at once", z.count(9), 3);
    }

    private static void loseRefuses() {
        refusedOfHosts("13", 0, host -> x -> bit(x.lose(host, 1)));
        for (int n : new int[] {-1, 1001, Integer.MIN_VALUE, Integer.MAX_VALUE}) {
            refused("13: to lose " + n, "word", 0, x -> bit(x.lose(0, n)));
        }
        refused("13: as many as told", "word", 1, x -> bit(x.lose(0, 2)));
        for (int n = 0; n <= 3; n++) {
            CableNames x = crowd("word");
            CHECK.yes("13: to lose " + n, x.lose(0, n));
            x.go(5000);
            CHECK.same("13: lost, in place of two", x.count(4), n);
        }
        CableNames x = crowd("word");
        x.off(0, false);
        x.on(0, 1);
        x.go(5000);
        CHECK.same("13: one that went off loses no more", x.count(4), 0);
    }

    /** An entry of life 1 asks four times at once: eight of them in an ANSWER are 32 packets. */
    private static void losesAThousand() {
        CableNames x = new CableNames();
        x.on(0, 1);
        x.on(1, 2);
        Check.ask(x, 0, 1, "w");
        x.go(8000);
        int sent = x.count(1);
        int heard = x.count(3);
        CHECK.yes("13: to lose 1000", x.lose(1, 1000));
        int[][] eight = new int[8][];
        for (int k = 0; k < 8; k++) {
            eight[k] = Check.recordOfName(0, 1, "w", k);
        }
        for (int k = 0; k < 32; k++) {
            Check.give(x, 0, Check.answer(eight));
            x.go(1);
            CHECK.same("13: all are lost, up to 1000", x.count(4), Math.min(1000, x.count(1) - sent));
        }
        CHECK.same("13: packets sent", x.count(1) - sent, 1024);
        CHECK.same("13: the others are heard", x.count(3) - heard, 24);
    }

    private static void giveRefuses() {
        refusedOfHosts("14", NONE, host -> x -> x.give(host));
        CableNames x = crowd("");
        Check.tape(x, 2, 250, 0, 0, 1);
        CHECK.same("14: can be read", x.give(7), 0);
        CHECK.same("14: the tape is empty then", Seen.tapeLength(x), 0);
        CHECK.alike("14: not its address, so nothing comes of it", x, crowd(""));
        for (int host : new int[] {0, 1, 2, 3, 4, 7}) {
            CableNames y = crowd("word");
            CHECK.same("14: can't be read", y.give(host), 1);
            CHECK.same("14: the tape is empty then, too", Seen.tapeLength(y), 0);
            CHECK.same("14: counted", y.look(host, 11), 1);
            CHECK.same("14: an empty one can't be read", y.give(host), 1);
            CHECK.same("14: counted, too", y.look(host, 11), 2);
            CHECK.same("14: neither heard nor lost", y.count(3) + y.count(4), x.count(3));
            y.go(0);
            CHECK.same("14: host 0 has two to lose still, and loses the one that was sent", y.count(4), 1);
        }
    }

    // ---- 15 to 22: what can be seen ----

    /** 1 and 2: the very exceptions of the document; 3: another one, be it one below these. */
    private static int thrown(CableNames x, int host, int what) {
        try {
            x.look(host, what);
            return 0;
        } catch (RuntimeException e) {
            return e.getClass() == IndexOutOfBoundsException.class ? 1
                : e.getClass() == NoSuchElementException.class ? 2 : 3;
        }
    }

    private static void lookThrows() {
        for (int host : NO_HOSTS) {
            for (int what = 0; what < 12; what++) {
                int it = what;
                CHECK.same("15: host " + host + ", " + what, thrown(crowd(""), host, it), 1);
            }
            refused("15: host " + host, "word", 1, x -> thrown(x, host, 0));
        }
        for (int what : new int[] {-1, 12, 13, Integer.MIN_VALUE, Integer.MAX_VALUE}) {
            for (int host = 0; host < 8; host++) {
                CHECK.same("15: host " + host + ", " + what, thrown(crowd(""), host, what), 2);
            }
            refused("15: what " + what, "word", 2, x -> thrown(x, 0, what));
        }
        for (int host = 0; host < 8; host++) {
            for (int what = 0; what < 12; what++) {
                CHECK.same("15: host " + host + ", " + what, thrown(crowd(""), host, what), 0);
            }
        }
        CableNames x = crowd("");
        x.split(255);
        for (int host : OFF) {
            for (int what = 0; what < 12; what++) {
                CHECK.same("15: off, " + what, x.look(host, what), what == 2 ? NONE : what == 9 ? 1 : 0);
            }
        }
        CHECK.same("15: an address that it probes is none", x.look(3, 2), NONE);
        CHECK.same("15: one that it holds is", x.look(4, 2), 5 * 257);
    }

    private static void signsThatAreNone() {
        for (int host : NO_HOSTS) {
            CHECK.same("16: host " + host, crowd("").sign(host, 0), NONE);
        }
        String[] names = {"box", "full", "new", "", "", "", "", ""};
        for (int host = 0; host < 8; host++) {
            CableNames x = crowd("");
            int length = names[host].length();
            for (int k : new int[] {-1, length, 14, 15, 16, Integer.MIN_VALUE, Integer.MAX_VALUE}) {
                CHECK.same("16: host " + host + ", sign " + k, x.sign(host, k), NONE);
            }
            CHECK.named("16: host " + host, x, host, names[host]);
        }
        CableNames x = crowd(LONGEST);
        x.claim(4);
        CHECK.same("16: sign 14 of fifteen", x.sign(4, 14), 'x');
        CHECK.same("16: sign 15 of fifteen", x.sign(4, 15), NONE);
        x.off(4, false);
        CHECK.same("16: off", x.sign(4, 0), NONE);
    }

    private static void answersThatAreNone() {
        CableNames x = crowd("");
        for (int host : NO_HOSTS) {
            CHECK.same("17: host " + host, x.answers(host, 0), NONE);
        }
        for (int host : OFF) {
            CHECK.same("17: off", x.answers(host, 0), NONE);
        }
        for (int question : new int[] {-1, 4, Integer.MIN_VALUE, Integer.MAX_VALUE}) {
            CHECK.same("17: question " + question, x.answers(1, question), NONE);
        }
        for (int question = 0; question < 4; question++) {
            CHECK.same("17: open, " + question, x.answers(1, question), question % 2 == 0 ? 0 : 2);
            CHECK.same("17: of host 0, " + question, x.answers(0, question), question == 0 ? 1 : NONE);
        }
        Check.ask(x, 7, 1, "W");
        CHECK.same("17: all 24", x.answers(7, 0), 24);
        x.off(7, false);
        CHECK.same("17: off", x.answers(7, 0), NONE);
    }

    private static void foundThatIsNone() {
        CableNames x = crowd("");
        for (int what = 0; what < 3; what++) {
            for (int host : NO_HOSTS) {
                CHECK.same("18: host " + host, x.found(host, 1, 0, what), NONE);
            }
            for (int question : new int[] {-1, 4, Integer.MIN_VALUE, Integer.MAX_VALUE}) {
                CHECK.same("18: question " + question, x.found(1, question, 0, what), NONE);
            }
            for (int k : new int[] {-1, 2, 24, Integer.MIN_VALUE, Integer.MAX_VALUE}) {
                CHECK.same("18: k " + k, x.found(1, 1, k, what), NONE);
            }
            CHECK.same("18: none was found", x.found(1, 0, 0, what), NONE);
            CHECK.same("18: not open", x.found(0, 1, 0, what), NONE);
            CHECK.same("18: off", x.found(6, 0, 0, what), NONE);
        }
        for (int what : new int[] {-1, 3, Integer.MIN_VALUE, Integer.MAX_VALUE}) {
            CHECK.same("18: what " + what, x.found(1, 1, 0, what), NONE);
        }
        CHECK.same("18: the first one", x.found(1, 1, 0, 0), 1);
        CHECK.same("18: the last one", x.found(1, 1, 1, 0), 2);
        CHECK.same("18: signs of box", x.found(1, 1, 1, 2), 3);
        Check.ask(x, 7, 1, "w");
        CHECK.same("18: the last one of 24", x.found(7, 0, 23, 0), 23);
        CHECK.same("18: of sort 1 no signs", x.found(7, 0, 23, 2), 0);
        CHECK.same("18: and none behind it", x.found(7, 0, 24, 0), NONE);
    }

    private static void entriesThatAreNone() {
        CableNames x = crowd("");
        for (int what = 0; what < 7; what++) {
            for (int host : NO_HOSTS) {
                CHECK.same("19: host " + host, x.entry(host, 0, what), NONE);
            }
            for (int k : new int[] {-1, 24, 25, Integer.MIN_VALUE, Integer.MAX_VALUE}) {
                CHECK.same("19: k " + k, x.entry(7, k, what), NONE);
            }
            CHECK.same("19: off", x.entry(6, 0, what), NONE);
            CHECK.same("19: behind the last one", x.entry(1, x.look(1, 8), what), NONE);
            CHECK.yes("19: the first one", x.entry(7, 0, what) != NONE);
            CHECK.yes("19: the last one", x.entry(7, 23, what) != NONE);
        }
        for (int what : new int[] {-1, 7, Integer.MIN_VALUE, Integer.MAX_VALUE}) {
            CHECK.same("19: what " + what, x.entry(7, 0, what), NONE);
        }
        CHECK.same("19: the last one's address", x.entry(7, 23, 1), 23);
        x.go(3000);
        CHECK.same("19: those that ended are none", x.entry(7, 0, 0), NONE);
    }

    private static void countsThatAreNone() {
        for (int what : new int[] {-1, 11, 12, Integer.MIN_VALUE, Integer.MAX_VALUE}) {
            CHECK.same("20: what " + what, crowd("").count(what), NONE);
        }
        CableNames x = new CableNames();
        for (int what = 0; what < 10; what++) {
            CHECK.same("20: none yet, " + what, x.count(what), 0);
        }
        x.on(0, 200);
        CHECK.same("20: no packet sent yet", x.count(10), NONE);
        x.go(0);
        CHECK.same("20: one at time 0", x.count(10), 0);
        x.go(199);
        CHECK.same("20: still that one", x.count(10), 0);
        x.go(1);
        CHECK.same("20: the next one", x.count(10), 200);
    }

    /** The ids 65024 and 21759 have the addresses 0 and 65023. */
    private static void holdersOfNoAddress() {
        CableNames x = new CableNames();
        x.on(0, 65024);
        x.on(1, 21759);
        CHECK.same("21: 0 is not held yet", x.holders(0), 0);
        x.go(2000);
        CHECK.same("21: 0", x.holders(0), 1);
        CHECK.same("21: 65023", x.holders(65023), 1);
        for (int address : new int[] {-1, 1, 65022, 65024, 65025, 65536, Integer.MIN_VALUE, Integer.MAX_VALUE}) {
            CHECK.same("21: " + address, x.holders(address), 0);
        }
        x.off(0, false);
        CHECK.same("21: one that is off holds none", x.holders(0), 0);
        CHECK.same("21: nor is that NONE", x.holders(NONE), 0);
    }

    private static void bytesThatAreNone() {
        CableNames x = new CableNames();
        for (int i : new int[] {-1, 0, 1, 199, 200, Integer.MIN_VALUE, Integer.MAX_VALUE}) {
            CHECK.same("22: nothing was sent, " + i, x.sent(i), NONE);
        }
        x.on(0, 200);
        x.go(0);
        for (int i : new int[] {-1, 5, 6, 199, 200, 201, Integer.MIN_VALUE, Integer.MAX_VALUE}) {
            CHECK.same("22: an APROBE has no byte " + i, x.sent(i), NONE);
        }
        CHECK.same("22: its first one", x.sent(0), 1);
        CHECK.same("22: its last one", x.sent(4), 200);
        // An ANSWER is longer; the next packet, a short one, does not show its bytes.
        CableNames y = crowd("");
        y.off(1, true);
        CHECK.yes("22: a long one", y.sent(40) != NONE);
        Check.give(y, 4, Check.bytes(1, 5, 5, 0, 9));
        CHECK.sent("22: a short one", y, 2, 5, 5, 0, 5);
    }
}
