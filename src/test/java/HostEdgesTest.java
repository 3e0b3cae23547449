/** Terms 1 to 3 (hosts and the cable, addresses, names): each edge that they name, on both sides. */
final class HostEdgesTest {
    private static final Check CHECK = new Check("HostEdgesTest");
    private static final int NONE = CableNames.NONE;

    public static void main(String[] args) {
        dueNowOrLater();
        heardByAllButSomeHosts();
        heardOnce();
        firstSentFirstHeard();
        heardFromHostNoughtOn();
        partOfTheSenderThen();
        offHostsDoNothing();
        orderOfOneHostsActions();
        queueBehindAnAddress();
        queueBehindAName();
        queueBehindAQuestion();
        queueBehindAReply();
        queueBehindAnEntry();
        remaindersOfAddresses();
        remaindersOfFirstProbes();
        probesAndHoldsAddress();
        greaterAndLesserIds();
        tenSecondsAgo();
        whatIsNoDefence();
        defenceOfAnotherAddress();
        addressBeginsAnew();
        nameWaitsAndProbes();
        remaindersOfNameProbes();
        probesAndHoldsName();
        lesserAndSameAddress();
        recordsThatRename();
        recordsThatDoNot();
        numbersBehindTheHyphen();
        movesOnAndWaits();
        CHECK.done();
    }

    private static int[] claimed(int kind, int address, int id) {
        return Check.join(Check.bytes(kind), Check.pair(address), Check.pair(id));
    }

    private static int[] nprobe(String name, int address, int id) {
        return Check.join(Check.bytes(3), Check.word(name), Check.pair(address), Check.pair(id));
    }

    private static int[] record(int life, String name, int address) {
        return Check.answer(Check.recordOfName(0, life, name, address));
    }

    private static int[] asked(int sort, String word) {
        return Check.join(Check.bytes(4, sort), Check.word(word), Check.bytes(0));
    }

    private static CableNames host(int id, int milliseconds) {
        CableNames x = new CableNames();
        x.on(0, id);
        x.go(milliseconds);
        return x;
    }

    /** Id 1 holds 257 from 631 on, and n from 1394 on. */
    private static CableNames named(int milliseconds) {
        CableNames x = new CableNames();
        x.on(0, 1);
        Check.claim(x, 0, "n");
        x.go(milliseconds);
        return x;
    }

    // ---- 1: hosts and the cable ----

    /** 31 * 200 modulo 200 is 0, 31 * 71 modulo 200 is 1. */
    private static void dueNowOrLater() {
        CableNames x = new CableNames();
        x.go(1234);
        x.on(0, 200);
        x.on(1, 71);
        CHECK.same("1.: nothing ahead of go", x.count(1), 0);
        x.go(0);
        CHECK.same("1.: due at this time", x.count(1), 1);
        CHECK.same("1.: in this millisecond", x.count(10), 1234);
        x.go(0);
        CHECK.same("1.: a millisecond that is done has no more", x.count(1), 1);
        x.go(1);
        CHECK.same("1.: due at the next", x.count(1), 2);
        x.on(2, 400);
        x.go(5);
        CHECK.same("1.: due at a time that is past for go's milliseconds", x.count(1), 3);
        CHECK.same("1.: done in the millisecond of now", x.count(10), 1235);
    }

    private static void heardByAllButSomeHosts() {
        CableNames x = new CableNames();
        for (int host = 0; host < 8; host++) {
            x.on(host, 200 * (host + 1) + (host == 3 ? 0 : 10));
        }
        x.off(7, false);
        x.split(1 | 2);
        x.go(0);
        CHECK.same("1.: host 3 alone is due", x.count(1), 1);
        CHECK.same("1.: heard by 2, 4, 5, 6", x.count(3), 4);
        for (int host = 0; host < 8; host++) {
            x.lose(host, 1);
        }
        x.go(200);
        CHECK.same("1.: those of both parts are lost by all that they came to", x.count(4), 7);
    }

    /** Three packets wait in the queue; what comes behind them, alone, does not bring them again. */
    private static void heardOnce() {
        CableNames x = new CableNames();
        x.on(0, 1);
        x.on(1, 2);
        x.go(5000);
        int heard = x.count(3);
        for (int waiting = 3; waiting >= 0; waiting--) {
            for (int k = 0; k < waiting; k++) {
                Check.give(x, 0, claimed(1, 257, 9));
            }
            CHECK.same("1.: none is heard yet", x.count(3), heard);
            x.go(0);
            heard += waiting;
            CHECK.same("1.: each is heard once", x.count(3), heard);
            x.go(1);
            CHECK.same("1.: in its millisecond", x.count(3), heard);
        }
    }

    /** Both tell their addresses into the queue; the order of the new host's entries is that of the packets. */
    private static void firstSentFirstHeard() {
        for (int first = 0; first < 2; first++) {
            CableNames x = new CableNames();
            for (int host = 0; host < 2; host++) {
                x.on(host, 1 + host);
                Check.claim(x, host, "n" + host);
            }
            x.go(10000);
            x.on(2, 3);
            Check.give(x, first, nprobe("n" + first, 9, 9));
            Check.give(x, 1 - first, nprobe("n" + (1 - first), 9, 9));
            x.go(0);
            CHECK.same("1.: the first one sent", x.entry(2, 0, 1), 257 * (1 + first));
            CHECK.same("1.: the one behind it", x.entry(2, 1, 1), 257 * (2 - first));
        }
    }

    /** Hosts 0 and 1 took the same name in two parts; both answer host 2, host 0 first. */
    private static void heardFromHostNoughtOn() {
        CableNames x = new CableNames();
        x.split(2);
        for (int host = 0; host < 2; host++) {
            x.on(host, 2 - host);
            Check.claim(x, host, "n");
        }
        x.go(10000);
        x.split(0);
        x.on(2, 3);
        int answers = x.count(9);
        Check.ask(x, 2, 1, "n");
        x.go(20 + 33);
        CHECK.same("1.: both answer", x.count(9), answers + 2);
        CHECK.sent("1.: host 1 is the later one", x, Check.answer(Check.recordOfName(1, 120000, "n", 257)));
        CHECK.same("1.: host 0 was heard first", x.entry(2, 0, 1), 514);
    }

    private static void partOfTheSenderThen() {
        for (int part = 0; part < 2; part++) {
            CableNames x = new CableNames();
            x.on(0, 1);
            x.on(1, 2);
            x.on(2, 3);
            x.go(5000);
            int heard = x.count(3);
            x.split(part);
            Check.give(x, 0, claimed(1, 257, 9));
            x.split(part == 0 ? 1 : 0);
            x.go(0);
            CHECK.same("1.: sent in part " + part + ", heard by", x.count(3) - heard, part == 0 ? 2 : 0);
        }
        CableNames x = new CableNames();
        x.on(0, 1);
        x.on(1, 2);
        x.go(5000);
        int heard = x.count(3);
        Check.give(x, 0, claimed(1, 257, 9));
        x.off(1, false);
        x.on(2, 200);
        x.off(0, false);
        x.go(0);
        CHECK.same("1.: who is on as it is heard hears it, and the new one's own by none", x.count(3), heard + 1);
    }

    private static void offHostsDoNothing() {
        CableNames x = new CableNames();
        x.on(0, 1);
        Check.claim(x, 0, "n");
        Check.ask(x, 0, 1, "q");
        Check.give(x, 0, record(100, "q", 1));
        x.on(1, 200);
        x.off(0, false);
        x.go(5000);
        CHECK.same("1.: host 1 alone sends", x.count(1), 5);
        CHECK.same("1.: APROBES of one", x.count(5), 3);
        CHECK.same("1.: nobody hears it", x.count(3), 0);
    }

    /** Of each pair, both are due in one millisecond: what was sent last tells which was first. */
    private static void orderOfOneHostsActions() {
        // Id 1000: after a join the address and the name are both due at once.
        CableNames x = new CableNames();
        x.on(0, 1000);
        Check.claim(x, 0, "n");
        x.go(10000);
        x.join();
        int sent = x.count(1);
        x.go(0);
        CHECK.same("1.: both", x.count(1), sent + 2);
        CHECK.same("1.: the name behind the address", x.sent(0), 5);

        // Id 160: a name's is due 13 * 160 modulo 250, which is 80, a question 20 and 60 from now.
        CableNames y = new CableNames();
        y.on(0, 160);
        Check.claim(y, 0, "n");
        y.go(10000);
        y.join();
        Check.ask(y, 0, 1, "q");
        y.go(79);
        sent = y.count(9) + y.count(8);
        y.go(1);
        CHECK.same("1.: both", y.count(9) + y.count(8), sent + 2);
        CHECK.same("1.: the question behind the name", y.sent(0), 4);

        // Id 25: a question and a reply are both due 20 and 75 from now.
        CableNames z = new CableNames();
        z.on(0, 25);
        Check.claim(z, 0, "n");
        Check.service(z, 0, "t", 1);
        z.go(10000);
        Check.give(z, 0, asked(2, "t"));
        Check.ask(z, 0, 1, "q");
        Check.ask(z, 0, 2, "q");
        z.go(94);
        sent = z.count(1);
        z.go(1);
        CHECK.same("1.: all three", z.count(1), sent + 3);
        CHECK.same("1.: the reply behind the questions", z.sent(0), 5);

        // The same reply, and an entry whose 80 hundredths are then.
        Check.give(z, 0, asked(2, "t"));
        Check.give(z, 0, Check.answer(Check.recordOfName(0, 119, "q", 1)));
        z.go(94);
        sent = z.count(1);
        z.go(1);
        CHECK.same("1.: both", z.count(1), sent + 2);
        CHECK.same("1.: the entry behind the reply", z.sent(0), 4);
    }

    /** Ids 1 and 65025 have the same address; host 1 comes on so that both are due at 200. */
    private static void queueBehindAnAddress() {
        CableNames x = new CableNames();
        x.go(25);
        x.on(1, 65025);
        x.go(144);
        x.on(0, 1);
        x.go(30);
        CHECK.same("1.: none is due at 199", x.count(5), 0);
        x.go(1);
        CHECK.same("1.: the second one heard the first one's, and did not probe", x.count(5), 1);
        CHECK.same("1.: it moved on", x.look(1, 3), 1);
    }

    /** Ids 251 and 1 have addresses 64507 and 257, and both are due 13 after their claims. */
    private static void queueBehindAName() {
        CableNames x = new CableNames();
        x.on(0, 251);
        x.on(1, 1);
        x.go(5000);
        Check.claim(x, 0, "n");
        Check.claim(x, 1, "n");
        x.go(12);
        CHECK.same("1.: none is due", x.count(7), 0);
        x.go(1);
        CHECK.same("1.: the second one heard the first one's, and yields", x.count(7), 1);
    }

    /** 11 * 1 and 11 * 101 are alike modulo 100. */
    private static void queueBehindAQuestion() {
        CableNames x = new CableNames();
        x.on(0, 1);
        x.on(1, 101);
        Check.ask(x, 0, 1, "q");
        Check.ask(x, 1, 1, "q");
        x.go(31);
        CHECK.same("1.: the second one heard the first one's, and saves", x.count(8), 1);
        CHECK.same("1.: saved", x.look(1, 10), 1);
        CHECK.same("1.: not so the first one", x.look(0, 10), 0);
    }

    /** Id 25 replies 95 after an ASK; id 25 + 100 asks 95 after its question came. */
    private static void queueBehindAReply() {
        CableNames x = new CableNames();
        x.on(0, 25);
        Check.claim(x, 0, "n");
        x.go(10000);
        x.on(1, 125);
        x.go(10000);
        Check.service(x, 0, "t", 7);
        Check.give(x, 0, asked(2, "t"));
        Check.ask(x, 1, 2, "t");
        x.go(94);
        CHECK.same("1.: none yet", x.answers(1, 0), 0);
        x.go(1);
        CHECK.sent("1.: the one that asks knows the reply already", x, 4, 2, 1, 't', 1, 1, 'n', 0, 7);
    }

    /** An entry of life 100 asks at 80; so does the question of id 160, due 20 and 60 after it came. */
    private static void queueBehindAnEntry() {
        CableNames x = new CableNames();
        x.on(0, 1);
        x.on(1, 160);
        Check.ask(x, 0, 1, "q");
        x.go(8000);
        int asks = x.count(8);
        Check.give(x, 0, record(100, "q", 1));
        Check.ask(x, 1, 1, "q");
        x.go(79);
        CHECK.same("1.: none yet", x.count(8), asks);
        x.go(1);
        CHECK.same("1.: the entry asked, so the question saves", x.count(8), asks + 1);
        CHECK.same("1.: saved", x.look(1, 10), 1);
    }

    // ---- 2: addresses ----

    private static void remaindersOfAddresses() {
        int[][] ids = {{1, 257}, {253, 65021}, {254, 254}, {21759, 65023}, {65024, 0}, {65025, 257}, {65535, 1279}};
        for (int[] id : ids) {
            CableNames x = host(id[0], 1000);
            CHECK.same("2.: the address of id " + id[0], x.look(0, 2), id[1]);
            CHECK.same("2.: it is held", x.holders(id[1]), 1);
        }
        int[][] seconds = {{41731, 0}, {63490, 65023}, {1, 4350}};
        for (int[] id : seconds) {
            CableNames x = new CableNames();
            x.on(0, id[0]);
            Check.give(x, 0, claimed(2, (int) (257L * id[0] % 65024), 0));
            x.go(1000);
            CHECK.same("2.: the second address of id " + id[0], x.look(0, 2), id[1]);
            Check.give(x, 0, claimed(1, id[1], 0));
            CHECK.sent("2.: it tells it", x, claimed(2, id[1], id[0]));
        }
    }

    /** 31 * 129 modulo 200 is 199; behind a conflict (31 * 193 + 17) is 0, (31 * 122 + 17) is 199 modulo 200. */
    private static void remaindersOfFirstProbes() {
        int[][] firsts = {{200, 0}, {129, 199}, {1, 31}, {65535, 185}};
        for (int[] id : firsts) {
            CHECK.same("2.: id " + id[0] + " at its time", host(id[0], id[1]).count(5), 1);
            if (id[1] > 0) {
                CHECK.same("2.: id " + id[0] + " one ahead of it", host(id[0], id[1] - 1).count(5), 0);
            }
            CHECK.same("2.: 199 later", host(id[0], id[1] + 199).count(5), 1);
            CHECK.same("2.: 200 later", host(id[0], id[1] + 200).count(5), 2);
        }
        int[][] seconds = {{193, 0}, {122, 199}};
        for (int[] id : seconds) {
            for (int early = 0; early < 2; early++) {
                CableNames x = new CableNames();
                x.on(0, id[0]);
                Check.give(x, 0, claimed(2, (int) (257L * id[0] % 65024), 0));
                x.go(Math.max(0, id[1] - early));
                CHECK.same("2.: second try of id " + id[0], x.count(5), id[1] - early < id[1] && id[1] > 0 ? 0 : 1);
            }
        }
    }

    private static void probesAndHoldsAddress() {
        for (int at : new int[] {0, 30, 31, 630}) {
            CableNames x = host(1, at);
            CHECK.same("2.: probes at " + at, x.look(0, 2), NONE);
            Check.give(x, 0, claimed(1, 257, 0));
            CHECK.same("2.: for an APROBE it moves on", x.look(0, 3), 1);
            CHECK.same("2.: and tells nothing", x.count(6), 0);
            CableNames y = host(1, at);
            Check.give(y, 0, claimed(2, 257, 9));
            CHECK.same("2.: for an ATELL it moves on", y.look(0, 3), 1);
            CHECK.same("2.: and tells nothing", y.count(6), 0);
        }
        for (int at : new int[] {631, 632, 2630, 2631, 9000}) {
            for (int kind = 1; kind <= 2; kind++) {
                CableNames x = host(1, at);
                int told = x.count(6);
                CHECK.same("2.: holds at " + at, x.look(0, 2), 257);
                Check.give(x, 0, claimed(kind, 257, 0));
                CHECK.same("2.: it does not move on", x.look(0, 3), 0);
                CHECK.same("2.: it tells", x.count(6), told + 1);
            }
        }
        CHECK.same("2.: one ATELL up to 2630", host(1, 2630).count(6), 1);
        CHECK.same("2.: two at 2631", host(1, 2631).count(6), 2);
        CHECK.same("2.: nothing more", host(1, 20000).count(6), 2);
    }

    private static void greaterAndLesserIds() {
        int[] others = {0, 1, 499, 500, 501, 65535};
        int address = 500 * 257 % 65024;
        for (int id : others) {
            CableNames x = host(500, 0);
            Check.give(x, 0, claimed(1, address, id));
            CHECK.same("2.: it probes, an APROBE by " + id, x.look(0, 3), id < 500 ? 1 : 0);
            CHECK.same("2.: conflicts", x.look(0, 5), id < 500 ? 1 : 0);
            CableNames y = host(500, 0);
            Check.give(y, 0, claimed(2, address, id));
            CHECK.same("2.: it probes, an ATELL by " + id, y.look(0, 3), id != 500 ? 1 : 0);
            for (int kind = 1; kind <= 2; kind++) {
                CableNames z = host(500, 5000);
                int told = z.count(6);
                Check.give(z, 0, claimed(kind, address, id));
                CHECK.same("2.: it holds, by " + id, z.count(6) - told, id != 500 ? 1 : 0);
                CHECK.same("2.: it holds it still", z.look(0, 2), address);
                for (int beside : new int[] {address - 1, address + 1}) {
                    Check.give(z, 0, claimed(kind, beside, id));
                    CHECK.same("2.: another address", z.count(6) - told, id != 500 ? 1 : 0);
                }
            }
        }
    }

    private static void tenSecondsAgo() {
        int[] rival = claimed(2, 257, 9);
        for (int later : new int[] {0, 1, 9999, 10000, 10001, 19999}) {
            CableNames x = host(1, 5000);
            Check.give(x, 0, rival);
            CHECK.same("2.: never yet, so it tells", x.count(6), 3);
            x.go(later);
            Check.give(x, 0, rival);
            boolean tells = later >= 10000;
            CHECK.same("2.: it tells, " + later + " ago", x.count(6), tells ? 4 : 3);
            CHECK.same("2.: it moves on, " + later + " ago", x.look(0, 3), tells ? 0 : 1);
            CHECK.same("2.: conflicts, " + later + " ago", x.look(0, 5), tells ? 0 : 1);
            CHECK.same("2.: holders, " + later + " ago", x.holders(257), tells ? 1 : 0);
        }
        for (int later : new int[] {9999, 10000}) {
            CableNames x = host(1, 5000);
            Check.give(x, 0, rival);
            x.go(10000);
            Check.give(x, 0, rival);
            x.go(later);
            Check.give(x, 0, rival);
            CHECK.same("2.: the latest one counts, " + later, x.look(0, 3), later == 10000 ? 0 : 1);
        }
    }

    /** Only what it told by an ATELL counts: neither its own steps, nor what it told by an APROBE. */
    private static void whatIsNoDefence() {
        CableNames x = host(1, 631);
        Check.give(x, 0, claimed(1, 257, 9));
        Check.give(x, 0, claimed(2, 257, 1));
        Check.give(x, 0, claimed(2, 258, 9));
        int told = x.count(6);
        Check.give(x, 0, claimed(2, 257, 9));
        CHECK.same("2.: the first one by an ATELL", x.count(6), told + 1);
        x.go(9999);
        Check.give(x, 0, claimed(1, 257, 9));
        x.join();
        x.go(1);
        Check.give(x, 0, claimed(2, 257, 9));
        CHECK.same("2.: 10000 ago, whatever it told since", x.look(0, 3), 0);
    }

    /** "It did so by an ATELL never" is said of the host: a defence of the address that it left counts. */
    private static void defenceOfAnotherAddress() {
        for (int at : new int[] {1279, 10630, 10631}) {
            CableNames x = host(1, 631);
            Check.give(x, 0, claimed(2, 257, 9));
            Check.give(x, 0, claimed(2, 257, 9));
            x.go(at - 631);
            CHECK.same("2.: it holds another address at " + at, x.look(0, 2), 4350);
            int told = x.count(6);
            Check.give(x, 0, claimed(2, 4350, 9));
            CHECK.same("2.: told at " + at, x.count(6) - told, at < 10631 ? 0 : 1);
            CHECK.same("2.: tries at " + at, x.look(0, 3), at < 10631 ? 2 : 1);
        }
    }

    private static void addressBeginsAnew() {
        CableNames x = host(1, 631);
        int[] rival = claimed(2, 257, 9);
        Check.give(x, 0, rival);
        Check.give(x, 0, rival);
        CHECK.same("2.: it moved on", x.look(0, 3), 1);
        int told = x.count(6);
        int probes = x.count(5);
        // Try 1 of id 1 is due 48 from then; its step 3 is 600 later, its step 4 2000 behind that.
        int[] times = {48, 248, 448, 648, 2648};
        for (int k = 0; k < times.length; k++) {
            x.go(631 + times[k] - 1 - x.count(0));
            CHECK.same("2.: ahead of " + times[k], x.count(5) + x.count(6) - told - probes, k);
            x.go(1);
            CHECK.same("2.: at " + times[k], x.count(5) + x.count(6) - told - probes, k + 1);
            CHECK.same("2.: which packet", x.sent(0), k < 3 ? 1 : 2);
        }
        x.go(20000);
        CHECK.same("2.: the old step 4 is not done", x.count(6), told + 2);
    }

    // ---- 3: names ----

    private static void nameWaitsAndProbes() {
        for (int at : new int[] {0, 630, 631, 5000}) {
            CableNames x = host(1, at);
            Check.claim(x, 0, "n");
            CHECK.same("3.: claimed at " + at, x.look(0, 4), at < 631 ? 1 : 2);
            CHECK.same("3.: a sign of it", x.sign(0, 0), at < 631 ? NONE : 'n');
        }
        CableNames x = named(630);
        CHECK.same("3.: it waits", x.look(0, 4), 1);
        x.go(1);
        CHECK.same("3.: it probes", x.look(0, 4), 2);
        CHECK.same("3.: no packet more than the ATELL", x.sent(0), 2);
        x.go(12);
        CHECK.same("3.: not yet", x.count(7), 0);
        x.go(1);
        CHECK.same("3.: 13 from then", x.count(7), 1);
        CHECK.same("3.: no wish, no probes", host(1, 20000).count(7), 0);
    }

    /** 13 * 250 modulo 250 is 0, 13 * 173 modulo 250 is 249. */
    private static void remaindersOfNameProbes() {
        int[][] ids = {{250, 0}, {173, 249}, {1, 13}, {65535, 205}};
        for (int[] id : ids) {
            for (int early = 0; early < 2; early++) {
                CableNames x = host(id[0], 5000);
                Check.claim(x, 0, "n");
                x.go(Math.max(0, id[1] - early));
                CHECK.same("3.: id " + id[0] + ", " + early, x.count(7), early == 1 && id[1] > 0 ? 0 : 1);
                x.go(249);
                CHECK.same("3.: 249 later, id " + id[0], x.count(7), 1);
                x.go(1);
                CHECK.same("3.: 250 later, id " + id[0], x.count(7), early == 1 && id[1] > 0 ? 1 : 2);
            }
        }
    }

    private static void probesAndHoldsName() {
        for (int at : new int[] {643, 644, 1144, 1393}) {
            CableNames x = named(at);
            CHECK.same("3.: probes at " + at, x.look(0, 4), 2);
            Check.give(x, 0, nprobe("n", 1, 9));
            Check.give(x, 0, asked(1, "n"));
            CHECK.same("3.: it has no records", x.count(9), 0);
        }
        for (int at : new int[] {1394, 2393, 2394, 9000}) {
            CableNames x = named(at);
            int told = x.count(9);
            CHECK.same("3.: told by " + at, told, at < 2394 ? 1 : 2);
            CHECK.same("3.: holds at " + at, x.look(0, 4), 3);
            Check.give(x, 0, nprobe("n", 1, 9));
            CHECK.same("3.: it tells", x.count(9), told + 1);
        }
        CHECK.same("3.: nothing more", named(20000).count(9), 2);
    }

    private static void lesserAndSameAddress() {
        for (int address : new int[] {0, 256, 257, 258, 65023}) {
            CableNames x = named(1393);
            Check.give(x, 0, nprobe("N", address, 9));
            x.go(1);
            boolean yields = address > 257;
            CHECK.same("3.: it probes, told is " + address, x.look(0, 4), yields ? 2 : 3);
            CHECK.same("3.: no conflict", x.look(0, 5), 0);
            CHECK.named("3.: no other name", x, 0, "n");
            if (yields) {
                x.go(998);
                CHECK.same("3.: 999 from then", x.count(7), 3);
                x.go(1);
                CHECK.same("3.: 1000 from then, at step 0", x.count(7), 4);
                x.go(749);
                CHECK.same("3.: three probes", x.look(0, 4), 2);
                x.go(1);
                CHECK.same("3.: then it holds it", x.look(0, 4), 3);
            }
            CableNames y = named(5000);
            Check.give(y, 0, nprobe("N", address, 9));
            CHECK.same("3.: it holds it, told is " + address, y.count(9), 3);
            CHECK.same("3.: and goes on holding it", y.look(0, 4), 3);
        }
        for (String other : new String[] {"m", "n-", "nn", "-"}) {
            CableNames x = named(1393);
            Check.give(x, 0, nprobe(other, 65023, 9));
            x.go(1);
            CHECK.same("3.: another name, " + other, x.look(0, 4), 3);
        }
    }

    private static void recordsThatRename() {
        for (int life : new int[] {1, 120000, Integer.MAX_VALUE}) {
            for (int address : new int[] {0, 256, 258, 65023}) {
                CableNames x = named(1393);
                Check.give(x, 0, record(life, "N", address));
                CHECK.named("3.: one that probes it", x, 0, "n-2");
                CHECK.same("3.: a conflict", x.look(0, 5), 1);
                x.go(12);
                CHECK.same("3.: from step 0 on, not yet", x.count(7), 3);
                x.go(1);
                CHECK.same("3.: 13 from then", x.count(7), 4);
                x.go(749);
                CHECK.same("3.: it probes", x.look(0, 4), 2);
                x.go(1);
                CHECK.same("3.: it holds it", x.look(0, 4), 3);

                CableNames y = named(1394);
                Check.give(y, 0, record(life, "N", address));
                CHECK.named("3.: one that holds it", y, 0, "n");
                CHECK.same("3.: it probes it", y.look(0, 4), 2);
                CHECK.same("3.: a conflict", y.look(0, 5), 1);
                y.go(762);
                CHECK.same("3.: it probes", y.look(0, 4), 2);
                CHECK.same("3.: three probes more, no telling", y.count(7) * 10 + y.count(9), 61);
                y.go(1);
                CHECK.same("3.: it holds it again", y.look(0, 4), 3);
            }
        }
    }

    private static void recordsThatDoNot() {
        for (int at : new int[] {1393, 1394}) {
            CableNames x = named(at);
            CableNames y = named(at);
            Check.give(x, 0, record(0, "n", 258));
            Check.give(x, 0, record(0, "N", 0));
            CHECK.alike("3.: life 0", x, y);
            Check.give(x, 0, record(1, "n", 257));
            Check.give(x, 0, record(1, "m", 258));
            Check.give(x, 0, record(1, "nn", 258));
            Check.give(x, 0, Check.answer(Check.recordOfType(1, 1, "n", "n", 258)));
            CHECK.same("3.: its own address, another name, sort 2", x.look(0, 5), 0);
            CHECK.same("3.: nothing of its name changes", x.look(0, 4), at < 1394 ? 2 : 3);
            CHECK.named("3.: its name", x, 0, "n");
        }
        CableNames x = named(630);
        Check.give(x, 0, record(9000, "n", 258));
        CHECK.same("3.: one that waits", x.look(0, 5), 0);
        x.go(1);
        CHECK.named("3.: it probes what it wished", x, 0, "n");
    }

    /** Two to four signs go to the hyphen and the number, the first ones of the wish stand ahead of them. */
    private static void numbersBehindTheHyphen() {
        String longest = "abcdefghijklmno";
        for (int length : new int[] {1, 10, 11, 12, 13, 14, 15}) {
            String wish = longest.substring(0, length);
            CableNames x = host(1, 5000);
            Check.claim(x, 0, wish);
            CHECK.named("3.: at first", x, 0, wish);
            for (int number = 2; number <= 101; number++) {
                Check.give(x, 0, record(1, Check.name(x, 0), 1));
                String end = "-" + number;
                String due = wish.substring(0, Math.min(length, 15 - end.length())) + end;
                CHECK.named("3.: number " + number, x, 0, due);
                CHECK.same("3.: conflicts", x.look(0, 5), number - 1);
            }
            x.go(763);
            CHECK.same("3.: it holds it", x.look(0, 4), 3);
            CHECK.same("3.: told with so many signs", x.sent(8), Math.min(15, length + 4));
        }
        // Eight renamings by one packet: in 100 packets the number comes beyond 999 to four signs.
        CableNames x = host(1, 5000);
        Check.claim(x, 0, "n");
        Check.give(x, 0, record(1, "n", 1));
        int number = 2;
        while (number < 1002) {
            int[][] eight = new int[8][];
            for (int k = 0; k < 8; k++) {
                eight[k] = Check.recordOfName(0, 1, "n-" + (number + k), 1);
            }
            Check.give(x, 0, Check.answer(eight));
            number += 8;
            CHECK.named("3.: by eight", x, 0, "n-" + number);
        }
    }

    private static void movesOnAndWaits() {
        int[] rival = claimed(2, 257, 9);
        for (int at : new int[] {700, 1394, 5000}) {
            CableNames x = named(at);
            Check.give(x, 0, rival);
            CHECK.same("3.: it defends, its name is as it was", x.look(0, 4), at < 1394 ? 2 : 3);
            Check.give(x, 0, rival);
            CHECK.same("3.: it waits, lost at " + at, x.look(0, 4), 1);
            int probes = x.count(7);
            int told = x.count(9);
            x.go(647);
            CHECK.same("3.: no probes while it waits", x.count(7), probes);
            CHECK.same("3.: no telling while it waits", x.count(9), told);
            x.go(1);
            CHECK.same("3.: it has an address again", x.look(0, 2), 4350);
            CHECK.same("3.: and probes", x.look(0, 4), 2);
            x.go(763);
            CHECK.same("3.: three probes", x.count(7), probes + 3);
            CHECK.sent("3.: told with the new address", x, Check.answer(Check.recordOfName(1, 120000, "n", 4350)));
        }
        // The name and its number are not forgotten with the address.
        CableNames x = named(700);
        Check.give(x, 0, record(1, "n", 1));
        Check.give(x, 0, rival);
        Check.give(x, 0, rival);
        x.go(648);
        CHECK.named("3.: it probes the name that it had", x, 0, "n-2");
        Check.give(x, 0, record(1, "n-2", 257));
        CHECK.named("3.: the number is one more", x, 0, "n-3");
        CHECK.same("3.: conflicts of names and addresses", x.look(0, 5), 3);
    }
}
