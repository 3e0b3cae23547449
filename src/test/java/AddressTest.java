/** Promises 4 (on), 5 (off), 21 (holders), and addresses (terms 2). */
final class AddressTest {
    private static final Check CHECK = new Check("AddressTest");

    public static void main(String[] args) {
        onRefuses();
        probesThenTells();
        addressesOfTries();
        probesMeetProbes();
        holderAnswersProbe();
        holderDefendsOnce();
        proberYieldsToTell();
        twoHostsWithOneAddress();
        offForgets();
        onBeginsAnew();
        offPolitely();
        holdersCounts();
        CHECK.done();
    }

    private static int[] packet(int kind, int address, int id) {
        return Check.join(Check.bytes(kind), Check.pair(address), Check.pair(id));
    }

    private static void onRefuses() {
        CableNames x = new CableNames();
        CHECK.no("4: host -1", x.on(-1, 1));
        CHECK.no("4: host 8", x.on(8, 1));
        CHECK.no("4: id 0", x.on(0, 0));
        CHECK.no("4: id -1", x.on(0, -1));
        CHECK.no("4: id 65536", x.on(0, 65536));
        CHECK.yes("4: host 0", x.on(0, 1));
        CHECK.no("4: it is on", x.on(0, 2));
        CHECK.same("4: its id stays", x.look(0, 1), 1);
        CHECK.no("4: the id is another's", x.on(7, 1));
        CHECK.yes("4: host 7, the greatest id", x.on(7, 65535));
        CHECK.same("4: it is on", x.look(7, 0), 1);
        CHECK.yes("4: off", x.off(0, false));
        CHECK.yes("4: the id is free again", x.on(3, 1));
    }

    /** Id 10: (31 * 10) modulo 200 is 110, and 257 * 10 is 2570. */
    private static void probesThenTells() {
        CableNames x = new CableNames();
        x.on(4, 10);
        int[] times = {110, 310, 510, 710, 2710};
        for (int k = 0; k < times.length; k++) {
            x.go(times[k] - 1 - x.count(0));
            CHECK.same("4: packets ahead of " + times[k], x.count(1), k);
            CHECK.same("4: address ahead of " + times[k], x.look(4, 2), k < 4 ? -1 : 2570);
            x.go(1);
            CHECK.same("4: packets at " + times[k], x.count(1), k + 1);
            CHECK.sent("4: packet at " + times[k], x, k < 3 ? 1 : 2, 10, 10, 0, 10);
            CHECK.same("4: address at " + times[k], x.look(4, 2), k < 3 ? -1 : 2570);
        }
        x.go(20000);
        CHECK.same("4: nothing more", x.count(1), 5);
    }

    /** Each ATELL makes one that probes move on, so its tries can be gone through. */
    private static void addressesOfTries() {
        CableNames x = new CableNames();
        x.on(0, 65535);
        for (int k = 0; k < 40; k++) {
            long address = (257L * 65535 + 4093L * k) % 65024;
            long due = (31L * 65535 + 17L * k) % 200;
            CHECK.same("4: try", x.look(0, 3), k);
            CHECK.same("4: conflicts", x.look(0, 5), k);
            int sent = x.count(1);
            if (due > 0) {
                x.go((int) due - 1);
                CHECK.same("4: not due yet, try " + k, x.count(1), sent);
                x.go(1);
            } else {
                x.go(0);
            }
            CHECK.same("4: due, try " + k, x.count(1), sent + 1);
            CHECK.sent("4: probe of try " + k, x, packet(1, (int) address, 65535));
            CHECK.same("4: told of another", Check.give(x, 0, packet(2, (int) address, 1)), 0);
        }
    }

    private static void probesMeetProbes() {
        CableNames x = new CableNames();
        x.on(0, 5);
        Check.give(x, 0, packet(1, 5 * 257, 6));
        CHECK.same("2.: the lesser id stays", x.look(0, 3), 0);
        Check.give(x, 0, packet(1, 5 * 257, 5));
        CHECK.same("2.: its own id is nothing", x.look(0, 3), 0);
        Check.give(x, 0, packet(1, 5 * 257 + 1, 4));
        CHECK.same("2.: another address is nothing", x.look(0, 3), 0);
        Check.give(x, 0, packet(1, 5 * 257, 4));
        CHECK.same("2.: the greater id moves on", x.look(0, 3), 1);
        CHECK.same("2.: and counts a conflict", x.look(0, 5), 1);
        x.go(20000);
        CHECK.same("2.: to its next address", x.look(0, 2), 5 * 257 + 4093);
    }

    private static void holderAnswersProbe() {
        CableNames x = new CableNames();
        x.on(0, 5);
        x.go(20000);
        int told = x.count(6);
        for (int k = 1; k <= 3; k++) {
            Check.give(x, 0, packet(1, 5 * 257, k));
            CHECK.same("2.: it tells each time", x.count(6), told + k);
            CHECK.sent("2.: what it tells", x, packet(2, 5 * 257, 5));
        }
        Check.give(x, 0, packet(1, 5 * 257, 5));
        CHECK.same("2.: but not its own id", x.count(6), told + 3);
        Check.give(x, 0, packet(1, 4 * 257, 4));
        CHECK.same("2.: nor for another address", x.count(6), told + 3);
        Check.give(x, 0, packet(2, 5 * 257, 9));
        CHECK.same("2.: those were not by an ATELL, so it may still defend", x.look(0, 2), 5 * 257);
    }

    private static void holderDefendsOnce() {
        CableNames x = new CableNames();
        x.on(0, 5);
        x.go(20000);
        int told = x.count(6);
        Check.give(x, 0, packet(2, 5 * 257, 5));
        CHECK.same("2.: its own id is nothing", x.count(6), told);
        Check.give(x, 0, packet(2, 5 * 257, 9));
        CHECK.same("2.: it defends", x.count(6), told + 1);
        x.go(10000);
        Check.give(x, 0, packet(2, 5 * 257, 1));
        CHECK.same("2.: 10000 later again", x.count(6), told + 2);
        CHECK.same("2.: and holds it", x.look(0, 2), 5 * 257);
        x.go(9999);
        Check.give(x, 0, packet(2, 5 * 257, 1));
        CHECK.same("2.: 9999 later it does not", x.count(6), told + 2);
        CHECK.same("2.: it moves on", x.look(0, 3), 1);
        CHECK.same("2.: and holds none", x.look(0, 2), -1);
        CHECK.same("2.: a conflict", x.look(0, 5), 1);
    }

    private static void proberYieldsToTell() {
        CableNames x = new CableNames();
        x.on(0, 5);
        Check.give(x, 0, packet(2, 5 * 257, 5));
        CHECK.same("2.: its own id is nothing", x.look(0, 3), 0);
        Check.give(x, 0, packet(2, 5 * 257, 60000));
        CHECK.same("2.: it moves on for a greater id too", x.look(0, 3), 1);
        Check.give(x, 0, packet(2, 5 * 257, 60000));
        CHECK.same("2.: that is not its address any more", x.look(0, 3), 1);
    }

    /** Ids 1 and 65025 have the same address of try 0, 257; they are due at 31 and 175. */
    private static void twoHostsWithOneAddress() {
        CableNames x = new CableNames();
        x.on(0, 65025);
        x.on(1, 1);
        x.go(30);
        CHECK.same("2.: nothing heard yet", x.look(0, 3), 0);
        x.go(1);
        CHECK.same("2.: the greater id hears the probe", x.look(0, 3), 1);
        CHECK.same("2.: the lesser id stays", x.look(1, 3), 0);
        // The second try begins at 31, due (31 * 65025 + 17) modulo 200, which is 192.
        x.go(191);
        CHECK.same("2.: not yet", x.count(5), 1);
        x.go(1);
        CHECK.sent("2.: it probes anew", x, packet(1, 257 + 4093, 65025));
        x.go(5000);
        CHECK.same("2.: one has it", x.holders(257), 1);
        CHECK.same("2.: one the next", x.holders(4350), 1);
    }

    private static void offForgets() {
        CableNames x = new CableNames();
        CHECK.no("5: host -1", x.off(-1, false));
        CHECK.no("5: host 8", x.off(8, true));
        CHECK.no("5: one that is off", x.off(0, true));
        x.on(0, 1);
        x.split(1);
        Check.give(x, 0, packet(2, 257, 2));
        Check.give(x, 0, Check.bytes(9));
        Check.give(x, 0, Check.answer(Check.recordOfName(0, 9000, "k", 3)));
        Check.claim(x, 0, "n");
        Check.service(x, 0, "t", 1);
        Check.ask(x, 0, 1, "k");
        x.lose(0, 3);
        CHECK.yes("5: off", x.off(0, false));
        for (int what = 0; what < 12; what++) {
            CHECK.same("5: look " + what, x.look(0, what), what == 2 ? -1 : what == 9 ? 1 : 0);
        }
        CHECK.same("5: no answers", x.answers(0, 0), -1);
        CHECK.same("5: no entry", x.entry(0, 0, 0), -1);
        x.go(500);
        CHECK.same("5: it does nothing", x.count(1), 0);
        CHECK.yes("4: on again", x.on(0, 2));
        for (int what = 3; what < 12; what++) {
            CHECK.same("4: nothing else known " + what, x.look(0, what), what == 9 ? 1 : 0);
        }
        CHECK.same("4: no question", x.answers(0, 0), -1);
        x.go(62);
        CHECK.sent("4: try 0", x, packet(1, 514, 2));
        x.on(1, 200);
        x.split(0);
        x.go(0);
        CHECK.same("4: it loses none", x.count(4), 0);
        CHECK.same("4: it hears", x.count(3), 1);
    }

    /** What a host had under way when it went off does not go on when it comes on. */
    private static void onBeginsAnew() {
        CableNames x = new CableNames();
        x.on(0, 5);
        x.go(5000);
        int[] rival = packet(2, 5 * 257, 9);
        Check.give(x, 0, rival);
        Check.claim(x, 0, "n");
        Check.give(x, 0, Check.answer(Check.recordOfName(0, 9, "n", 1)));
        CHECK.named("3.: renamed", x, 0, "n-2");
        Check.ask(x, 0, 1, "q");
        Check.give(x, 0, Check.bytes(4, 1, 1, 'q', 0));
        CHECK.same("4.: saved", x.look(0, 10), 1);
        x.go(5000);
        Check.service(x, 0, "t", 1);
        Check.give(x, 0, Check.bytes(4, 2, 1, 't', 0));
        Check.give(x, 0, Check.answer(Check.recordOfName(0, 9, "n-2", 1)));
        CHECK.same("3.: it probes its name", x.look(0, 4), 2);
        x.off(0, false);
        int probes = x.count(7);
        int answers = x.count(9);
        x.on(0, 5);
        CHECK.same("4: nothing saved", x.look(0, 10), 0);
        x.go(1000);
        CHECK.same("4: the name's probes ended", x.count(7), probes);
        CHECK.same("4: the reply, too", x.count(9), answers);
        Check.give(x, 0, rival);
        CHECK.same("4: it never defended yet", x.look(0, 2), 5 * 257);
        Check.claim(x, 0, "m");
        Check.give(x, 0, Check.answer(Check.recordOfName(0, 9, "m", 1)));
        CHECK.named("4: its number is 2 again", x, 0, "m-2");
        x.off(0, false);
        x.on(0, 5);
        x.go(2000);
        Check.claim(x, 0, "k");
        Check.service(x, 0, "t", 1);
        x.go(5000);
        answers = x.count(9);
        Check.give(x, 0, Check.bytes(4, 2, 1, 't', 0));
        x.off(0, false);
        x.on(0, 5);
        Check.claim(x, 0, "k");
        Check.service(x, 0, "t", 1);
        x.go(5000);
        CHECK.same("4: two tellings alone", x.count(9), answers + 2);
    }

    private static void offPolitely() {
        CableNames x = new CableNames();
        x.on(0, 1);
        x.on(1, 2);
        x.go(3000);
        Check.claim(x, 0, "n");
        Check.service(x, 0, "t", 258);
        CHECK.same("5: it probes", x.look(0, 4), 2);
        x.go(3000);
        CHECK.same("5: it holds its name", x.look(0, 4), 3);
        CHECK.same("5: the other one heard of it", x.look(1, 8), 2);
        int sent = x.count(1);
        int heard = x.count(3);
        CHECK.yes("5: off", x.off(0, true));
        CHECK.same("5: one packet", x.count(1), sent + 1);
        CHECK.same("5: not heard yet", x.count(3), heard);
        CHECK.sent("5: all its records, of life 0", x,
            5, 2, 1, 1, 0, 0, 0, 0, 1, 'n', 1, 1, 2, 0, 0, 0, 0, 0, 1, 't', 128 + 8, 1, 2);
        CHECK.same("5: not dying yet", x.entry(1, 0, 5), 0);
        x.go(0);
        CHECK.same("5: heard by go", x.count(3), heard + 1);
        for (int k = 0; k < 2; k++) {
            CHECK.same("5: dying", x.entry(1, k, 5), 1);
            CHECK.same("5: in a second", x.entry(1, k, 6), 1000);
        }
        x.go(999);
        CHECK.same("5: still there", x.look(1, 8), 2);
        x.go(1);
        CHECK.same("5: gone", x.look(1, 8), 0);

        CableNames y = new CableNames();
        y.on(0, 1);
        y.go(3000);
        Check.claim(y, 0, "n");
        sent = y.count(1);
        y.off(0, true);
        CHECK.same("5: one that probes its name says nothing", y.count(1), sent);
        y.on(0, 1);
        y.go(3000);
        Check.claim(y, 0, "n");
        y.go(3000);
        sent = y.count(1);
        y.off(0, false);
        CHECK.same("5: nor one that goes without a word", y.count(1), sent);
    }

    private static void holdersCounts() {
        CableNames x = new CableNames();
        x.split(1);
        x.on(0, 1);
        x.on(1, 65025);
        CHECK.same("21: probing is not holding", x.holders(257), 0);
        x.go(3000);
        CHECK.same("21: two in two parts", x.holders(257), 2);
        CHECK.same("21: another one", x.holders(258), 0);
        CHECK.same("21: none such", x.holders(-1), 0);
        CHECK.same("21: none such", x.holders(65024), 0);
        x.off(0, false);
        CHECK.same("21: one is off", x.holders(257), 1);
    }
}
