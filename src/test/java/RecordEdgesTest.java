/** Terms 4 and 5 (records, questions, replies; caches): each edge that they name, on both sides. */
final class RecordEdgesTest {
    private static final Check CHECK = new Check("RecordEdgesTest");
    private static final int NONE = CableNames.NONE;
    private static final String LONGEST = "fifteen-signs-x";

    public static void main(String[] args) {
        fourServicesAreTold();
        portsAreTold();
        fourQuestionsAsk();
        remaindersOfFirstAsks();
        waitsUpToTheLongest();
        moreThanHalfOfItsLife();
        eightRecordsInAnAsk();
        longestAsk();
        withinAHundred();
        savedComesLater();
        sameQuestionTwice();
        toldInTheAsk();
        sortAndWordOfTheAsk();
        remaindersOfReplies();
        oneReplyOfAWord();
        fourRepliesAreOpen();
        nothingToReply();
        twentyFourEntries();
        oneThatIsThere();
        writingOfOneThatIsThere();
        lifeNoughtAndOne();
        endAheadOfThat();
        beganMoreThanASecondAhead();
        uniqueAndOthers();
        hundredthsAreCut();
        askedOnceEach();
        questionIsOpenThen();
        dyingAsksNoMore();
        dyingIsFound();
        CHECK.done();
    }

    private static int[] asked(int sort, String word, int... known) {
        return Check.join(Check.bytes(4, sort), Check.word(word), known.length == 0 ? Check.bytes(0) : known);
    }

    private static CableNames host(int id) {
        CableNames x = new CableNames();
        x.on(0, id);
        return x;
    }

    private static CableNames serving(int id, String... types) {
        CableNames x = host(id);
        Check.claim(x, 0, "n");
        for (int k = 0; k < types.length; k++) {
            Check.service(x, 0, types[k], k);
        }
        x.go(10000);
        return x;
    }

    private static void hear(CableNames x, int unique, int life, String name, int address) {
        Check.give(x, 0, Check.answer(Check.recordOfName(unique, life, name, address)));
    }

    private static void goTo(CableNames x, int time) {
        while (x.count(0) < time) {
            x.go(Math.min(20000, time - x.count(0)));
        }
    }

    // ---- 4: records, questions and replies ----

    private static void fourServicesAreTold() {
        for (int services = 0; services <= 4; services++) {
            CableNames x = host(1);
            Check.claim(x, 0, LONGEST);
            int[] due = Check.join(Check.bytes(5, 1 + services), Check.recordOfName(1, 120000, LONGEST, 257));
            for (int k = 0; k < services; k++) {
                String type = "type-of-signs-" + k;
                Check.service(x, 0, type, k);
                due = Check.join(due, Check.bytes(2, 0), Check.four(120000), Check.word(type),
                    Check.bytes(128 + 8, 0, k));
            }
            x.go(1394);
            CHECK.sent("4.: with " + services + " services", x, due);
            Check.service(x, 0, "fifth", 9);
            x.off(0, true);
            CHECK.same("4.: five records at most", x.sent(1), Math.min(5, 2 + services));
        }
    }

    private static void portsAreTold() {
        int[] ports = {0, 255, 256, 65535};
        CableNames x = host(1);
        Check.claim(x, 0, "n");
        for (int port : ports) {
            Check.service(x, 0, "t", port);
        }
        x.on(1, 2);
        Check.ask(x, 1, 2, "t");
        x.go(2000);
        for (int k = 0; k < 4; k++) {
            CHECK.same("4.: port of the service " + k, x.found(1, 0, k, 0), ports[k]);
        }
        CHECK.same("4.: no more", x.answers(1, 0), 4);
    }

    private static void fourQuestionsAsk() {
        CableNames x = host(100);
        for (int k = 0; k < 5; k++) {
            CHECK.same("4.: question " + k, Check.ask(x, 0, 1, "q" + k), k < 4 ? k : NONE);
        }
        x.end(0);
        x.go(19);
        CHECK.same("4.: none asks at 19", x.count(8), 0);
        x.go(1);
        CHECK.same("4.: four ask at 20", x.count(8), 4);
        CHECK.sent("4.: the last one", x, asked(1, "q3"));
    }

    /** 11 * 100 modulo 100 is 0, 11 * 9 is 99. */
    private static void remaindersOfFirstAsks() {
        int[][] ids = {{100, 20}, {9, 119}, {1, 31}, {65535, 105}};
        for (int[] id : ids) {
            CableNames x = host(id[0]);
            x.go(777);
            Check.ask(x, 0, 1, "q");
            x.go(id[1] - 1);
            CHECK.same("4.: id " + id[0] + " ahead of " + id[1], x.count(8), 0);
            x.go(1);
            CHECK.same("4.: id " + id[0] + " at " + id[1], x.count(8), 1);
        }
    }

    private static void waitsUpToTheLongest() {
        CableNames x = host(1);
        Check.ask(x, 0, 1, "q");
        int at = 31;
        int wait = 1000;
        for (int k = 1; k <= 10; k++) {
            goTo(x, at - 1);
            CHECK.same("4.: asks ahead of " + at, x.count(8), k - 1);
            goTo(x, at);
            CHECK.same("4.: asks at " + at, x.count(8), k);
            at += wait;
            wait = wait < 64000 ? 2 * wait : 64000;
        }
    }

    /** It asks at 31: of a life of 61 no half, of 62 a half, of 63 more is left then. */
    private static void moreThanHalfOfItsLife() {
        int[][] lives = {{32, 0}, {61, 0}, {62, 0}, {63, 1}, {64, 1}, {120000, 1}, {Integer.MAX_VALUE, 1}};
        for (int[] life : lives) {
            CableNames x = host(1);
            hear(x, 0, life[0], "q", 770);
            Check.ask(x, 0, 1, "q");
            x.go(31);
            // An entry that is at its 80 hundredths asks, too; the question's is the first one sent.
            int[] due = life[1] == 1 ? asked(1, "q", 1, 3, 2) : asked(1, "q");
            CHECK.sent("4.: known with a life of " + life[0], x, due);
        }
        // Till its END, not its beginning and its life: one that is dying has 1000 of 3000 left.
        int[][] dying = {{1900, 1}, {1937, 1}, {1938, 0}, {3000, 0}};
        for (int[] life : dying) {
            CableNames x = host(1);
            hear(x, 0, life[0], "q", 770);
            hear(x, 0, 0, "q", 770);
            Check.ask(x, 0, 1, "q");
            x.go(31);
            CHECK.same("4.: dying, with a life of " + life[0], x.sent(4), life[1]);
        }
    }

    private static void eightRecordsInAnAsk() {
        for (int known : new int[] {0, 1, 7, 8, 9, 24}) {
            CableNames x = host(1);
            int[] due = Check.bytes(Math.min(8, known));
            for (int k = 0; k < known; k++) {
                hear(x, 0, 9000, "q", 300 + k);
                due = k < 8 ? Check.join(due, Check.pair(300 + k)) : due;
            }
            Check.ask(x, 0, 1, "q");
            x.go(31);
            CHECK.sent("4.: known are " + known, x, asked(1, "q", due));
        }
        // Those of too little life are not among the eight.
        CableNames x = host(1);
        int[] due = Check.bytes(8);
        for (int k = 0; k < 20; k++) {
            hear(x, 0, k % 2 == 0 ? 40 : 9000, "q", k);
            due = k % 2 == 1 && k < 16 ? Check.join(due, Check.pair(k)) : due;
        }
        Check.ask(x, 0, 1, "q");
        x.go(31);
        CHECK.sent("4.: the first eight of enough life", x, asked(1, "q", due));
    }

    /** 1 and 1 and 16 and 1, and eight times 18 bytes. */
    private static void longestAsk() {
        CableNames x = host(1);
        x.on(1, 2);
        int[] due = Check.bytes(8);
        for (int k = 0; k < 9; k++) {
            String name = "name-of-signs-" + k;
            Check.give(x, 0, Check.answer(Check.recordOfType(0, 9000, LONGEST, name, k)));
            due = k < 8 ? Check.join(due, Check.word(name), Check.pair(k)) : due;
        }
        Check.ask(x, 0, 2, LONGEST);
        x.go(31);
        CHECK.sent("4.: the longest ASK", x, asked(2, LONGEST, due));
        CHECK.same("4.: its bytes and an APROBE's", x.count(2), 163 + 5);
        CHECK.same("4.: the other one can read it", x.look(1, 11), 0);
    }

    private static void withinAHundred() {
        // One that is due at this very time, and hears of another one, is in HostEdgesTest.
        for (int ahead : new int[] {1, 2, 99, 100, 101, 119}) {
            CableNames x = host(9);
            x.go(5000);
            Check.ask(x, 0, 1, "q");
            x.go(119 - ahead);
            Check.give(x, 0, asked(1, "q"));
            CHECK.same("4.: saved, " + ahead + " ahead", x.look(0, 10), ahead <= 100 ? 1 : 0);
            Check.give(x, 0, asked(1, "q"));
            CHECK.same("4.: but once, " + ahead + " ahead", x.look(0, 10), ahead <= 100 ? 1 : 0);
        }
    }

    /** Asked at 31, due at 1031: what is saved at 931 makes it due 2000 later than that, at 3031, then at 7031. */
    private static void savedComesLater() {
        for (int at : new int[] {930, 931, 1030}) {
            CableNames x = host(1);
            Check.ask(x, 0, 2, "q");
            x.go(at);
            Check.give(x, 0, asked(2, "Q"));
            boolean saves = at >= 931;
            CHECK.same("4.: saved at " + at, x.look(0, 10), saves ? 1 : 0);
            goTo(x, 1031);
            CHECK.same("4.: asks by 1031", x.count(8), saves ? 1 : 2);
            goTo(x, 3030);
            CHECK.same("4.: asks by 3030", x.count(8), saves ? 1 : 2);
            goTo(x, 3031);
            CHECK.same("4.: asks by 3031", x.count(8), saves ? 2 : 3);
            goTo(x, 7030);
            CHECK.same("4.: asks by 7030", x.count(8), saves ? 2 : 3);
            goTo(x, 7031);
            CHECK.same("4.: asks by 7031", x.count(8), saves ? 3 : 4);
        }
        CableNames x = host(1);
        Check.ask(x, 0, 2, "q");
        x.close(0, 0);
        Check.give(x, 0, asked(2, "q"));
        CHECK.same("4.: one that isn't open saves nothing", x.look(0, 10), 0);
    }

    /** Questions of id 1 from 0 and 60 on are due at 31 and 91, then 1000 later; another's ASK counts for each. */
    private static void sameQuestionTwice() {
        for (int at : new int[] {930, 931, 990, 991, 1030}) {
            CableNames x = host(1);
            Check.ask(x, 0, 1, "q");
            x.go(60);
            CHECK.same("4.: a second one alike", Check.ask(x, 0, 1, "Q"), 1);
            goTo(x, at);
            CHECK.same("4.: both asked", x.count(8), 2);
            Check.give(x, 0, asked(1, "q"));
            CHECK.same("4.: saved at " + at, x.look(0, 10), at < 931 ? 0 : at < 991 ? 1 : 2);
            goTo(x, 1091);
            CHECK.same("4.: asks by 1091", x.count(8), at < 931 ? 4 : at < 991 ? 3 : 2);
            goTo(x, 3091);
            CHECK.same("4.: asks by 3091", x.count(8), at < 931 ? 6 : at < 991 ? 5 : 4);
        }
    }

    private static void toldInTheAsk() {
        // Id 2 has the address 514.
        int[][] addresses = {{0, 1}, {1, 2, 1, 1}, {1, 2, 2, 0}, {1, 2, 3, 1}};
        for (int[] known : addresses) {
            CableNames x = serving(2);
            int told = x.count(9);
            int[] list = java.util.Arrays.copyOf(known, known.length - 1);
            Check.give(x, 0, asked(1, "n", list));
            CHECK.same("4.: its address", x.count(9) - told, known[known.length - 1]);
        }
        int[] eighth = Check.bytes(8);
        for (int k = 0; k < 8; k++) {
            eighth = Check.join(eighth, Check.pair(k == 7 ? 514 : k));
        }
        CableNames y = serving(2);
        int told = y.count(9);
        Check.give(y, 0, asked(1, "n", eighth));
        CHECK.same("4.: told as the eighth", y.count(9), told);
        // Ports 0 and 1 of one type: both must be told.
        int[][] services = {{0, 1}, {1, 1, 'n', 0, 0, 1}, {2, 1, 'n', 0, 0, 1, 'N', 0, 1, 0},
            {2, 1, 'n', 0, 0, 1, 'n', 0, 2, 1}, {2, 1, 'n', 0, 0, 1, 'm', 0, 1, 1}, {2, 1, 'n', 0, 0, 1, 'n', 1, 1, 1}};
        for (int[] known : services) {
            CableNames x = serving(2, "t", "t");
            told = x.count(9);
            Check.give(x, 0, asked(2, "t", java.util.Arrays.copyOf(known, known.length - 1)));
            x.go(1000);
            CHECK.same("4.: its services", x.count(9) - told, known[known.length - 1]);
            if (known[known.length - 1] == 1) {
                CHECK.same("4.: all of the word", x.sent(1), 2);
            }
        }
    }

    private static void sortAndWordOfTheAsk() {
        String[] words = {"n", "N", "t", "nn", "n-", "m"};
        for (String word : words) {
            CableNames x = serving(2, "t");
            int told = x.count(9);
            Check.give(x, 0, asked(1, word));
            CHECK.same("4.: sort 1 of " + word, x.count(9) - told, word.equalsIgnoreCase("n") ? 1 : 0);
            x.go(200);
            CHECK.same("4.: at once or never", x.count(9) - told, word.equalsIgnoreCase("n") ? 1 : 0);
            CableNames y = serving(2, "t");
            Check.give(y, 0, asked(2, word));
            CHECK.same("4.: sort 2 not at once", y.count(9), told);
            y.go(200);
            CHECK.same("4.: sort 2 of " + word, y.count(9) - told, word.equals("t") ? 1 : 0);
        }
    }

    /** 7 * 100 modulo 100 is 0, 7 * 57 is 99. */
    private static void remaindersOfReplies() {
        int[][] ids = {{100, 20}, {57, 119}, {1, 27}, {65535, 65}};
        for (int[] id : ids) {
            CableNames x = serving(id[0], "t");
            int told = x.count(9);
            Check.give(x, 0, asked(2, "t"));
            x.go(id[1] - 1);
            CHECK.same("4.: id " + id[0] + " ahead of " + id[1], x.count(9), told);
            x.go(1);
            CHECK.same("4.: id " + id[0] + " at " + id[1], x.count(9), told + 1);
        }
    }

    private static void oneReplyOfAWord() {
        // Id 1 replies 27 later: up to 26 the second ASK finds it open, at 27 it has gone.
        for (int later : new int[] {0, 1, 26, 27, 28}) {
            CableNames x = serving(1, "t");
            int told = x.count(9);
            Check.give(x, 0, asked(2, "t"));
            x.go(later);
            Check.give(x, 0, asked(2, "T"));
            x.go(27);
            CHECK.same("4.: a second ASK " + later + " later", x.count(9) - told, later < 27 ? 1 : 2);
            x.go(1000);
            CHECK.same("4.: no more", x.count(9) - told, later < 27 ? 1 : 2);
        }
    }

    private static void fourRepliesAreOpen() {
        CableNames x = serving(1, "a", "b", "c", "d");
        int told = x.count(9);
        for (int round = 0; round < 3; round++) {
            for (String type : new String[] {"a", "b", "c", "d", "e", "D"}) {
                Check.give(x, 0, asked(2, type));
            }
            x.go(26);
            CHECK.same("4.: none yet", x.count(9), told);
            x.go(1);
            CHECK.same("4.: all four", x.count(9), told + 4);
            CHECK.same("4.: in their order", x.sent(9), 'd');
            told += 4;
        }
        x.go(20000);
        CHECK.same("4.: no more", x.count(9), told);
    }

    private static void nothingToReply() {
        CableNames x = serving(1, "t");
        int told = x.count(9);
        Check.give(x, 0, asked(2, "t"));
        hear(x, 0, 1, "n", 300);
        x.go(27);
        CHECK.same("4.: it holds no name then, so nothing", x.count(9), told);
        x.go(735);
        CHECK.same("4.: nor when it holds one again", x.count(9), told);
        x.go(1);
        CHECK.same("4.: but it tells its records", x.sent(1), 2);
        CableNames y = host(1);
        Check.service(y, 0, "t", 1);
        y.go(10000);
        Check.give(y, 0, asked(2, "t"));
        y.go(1000);
        CHECK.same("4.: without a name it has no records", y.count(9), 0);
    }

    // ---- 5: caches ----

    private static void twentyFourEntries() {
        CableNames x = host(1);
        for (int k = 0; k < 26; k++) {
            hear(x, 0, k == 5 ? 500 : 9000, "w" + k, k);
            CHECK.same("5.: entries", x.look(0, 8), Math.min(24, k + 1));
        }
        CHECK.same("5.: the last one that came", x.entry(0, 23, 1), 23);
        hear(x, 0, 8000, "W23", 23);
        CHECK.same("5.: one that is there needs no room", x.entry(0, 23, 2), 8000);
        x.go(499);
        hear(x, 0, 9000, "late", 99);
        CHECK.same("5.: no room yet", x.look(0, 8), 24);
        x.go(1);
        CHECK.same("5.: one went", x.look(0, 8), 23);
        CHECK.same("5.: the one behind it comes up", x.entry(0, 5, 1), 6);
        hear(x, 0, 9000, "late", 99);
        CHECK.same("5.: there is room", x.look(0, 8), 24);
        CHECK.same("5.: behind the others", x.entry(0, 23, 1), 99);
        hear(x, 0, 9000, "later", 98);
        CHECK.same("5.: and no more", x.look(0, 8), 24);
        CHECK.same("5.: the last one stays", x.entry(0, 23, 1), 99);
        // One packet with eight records, of which three find room.
        CableNames y = host(1);
        for (int k = 0; k < 21; k++) {
            hear(y, 0, 9000, "w", k);
        }
        int[][] eight = new int[8][];
        for (int k = 0; k < 8; k++) {
            eight[k] = Check.recordOfName(0, 9000, "v", k);
        }
        Check.give(y, 0, Check.answer(eight));
        CHECK.same("5.: the first three of them", y.entry(0, 23, 1), 2);
    }

    private static void oneThatIsThere() {
        CableNames x = host(1);
        hear(x, 0, 9000, "w", 1);
        hear(x, 0, 9000, "w", 2);
        x.go(100);
        for (int life : new int[] {1, 5, Integer.MAX_VALUE, 700}) {
            hear(x, 0, life, "W", 1);
            CHECK.same("5.: two are there", x.look(0, 8), 2);
            CHECK.same("5.: at its place", x.entry(0, 0, 1), 1);
            CHECK.same("5.: its life", x.entry(0, 0, 2), life);
            CHECK.same("5.: it begins now", x.entry(0, 0, 3), 100);
            CHECK.same("5.: its end", x.entry(0, 0, 6), life);
            CHECK.same("5.: not the other one", x.entry(0, 1, 3), 0);
        }
        x.go(699);
        CHECK.same("5.: one ahead of its end", x.entry(0, 0, 6), 1);
        x.go(1);
        CHECK.same("5.: at its end it goes", x.entry(0, 0, 1), 2);
    }

    /** Heard again it begins anew, and nothing else of it changes: its words are as they came. */
    private static void writingOfOneThatIsThere() {
        CableNames x = host(1);
        Check.give(x, 0, Check.answer(Check.recordOfType(0, 9000, "type", "ab", 7)));
        Check.give(x, 0, Check.answer(Check.recordOfType(0, 8000, "TYPE", "AB", 7)));
        CHECK.same("5.: one entry", x.look(0, 8), 1);
        CHECK.same("5.: of the life told last", x.entry(0, 0, 2), 8000);
        Check.ask(x, 0, 2, "Type");
        x.go(31);
        CHECK.sent("5.: told as it came", x,
            asked(2, "Type", Check.join(Check.bytes(1), Check.word("ab"), Check.pair(7))));
    }

    private static void lifeNoughtAndOne() {
        CableNames x = host(1);
        hear(x, 0, 0, "w", 1);
        hear(x, 1, 0, "w", 1);
        CHECK.same("5.: of life 0 none comes", x.look(0, 8), 0);
        hear(x, 0, 1, "w", 1);
        CHECK.same("5.: of life 1 one comes", x.look(0, 8), 1);
        x.go(0);
        CHECK.same("5.: it is there in its millisecond", x.look(0, 8), 1);
        x.go(1);
        CHECK.same("5.: it is gone in the next one", x.look(0, 8), 0);
        hear(x, 0, 1, "w", 1);
        hear(x, 0, 0, "w", 1);
        CHECK.same("5.: dying", x.entry(0, 0, 5), 1);
        CHECK.same("5.: its end is ahead of 1000 from now", x.entry(0, 0, 6), 1);
        x.go(1);
        CHECK.same("5.: gone", x.look(0, 8), 0);
    }

    private static void endAheadOfThat() {
        for (int life : new int[] {999, 1000, 1001, 9000, Integer.MAX_VALUE}) {
            CableNames x = host(1);
            hear(x, 0, life, "w", 1);
            hear(x, 0, 9000, "w", 2);
            hear(x, 0, 0, "W", 1);
            int end = Math.min(life, 1000);
            CHECK.same("5.: its end, of life " + life, x.entry(0, 0, 6), end);
            CHECK.same("5.: it is dying", x.entry(0, 0, 5), 1);
            CHECK.same("5.: its life is not another one", x.entry(0, 0, 2), life);
            CHECK.same("5.: the other one is not dying", x.entry(0, 1, 5), 0);
            x.go(end - 1);
            hear(x, 0, 0, "W", 1);
            CHECK.same("5.: told again, its end stays", x.entry(0, 0, 6), 1);
            x.go(1);
            CHECK.same("5.: gone", x.look(0, 8), 1);
            hear(x, 0, life, "w", 1);
            CHECK.same("5.: it comes anew, behind the other one", x.entry(0, 1, 2), life);
            hear(x, 0, 0, "w", 1);
            hear(x, 0, life, "w", 1);
            CHECK.same("5.: heard again it isn't dying", x.entry(0, 1, 5), 0);
            CHECK.same("5.: and has its end", x.entry(0, 1, 6), life);
        }
    }

    private static void beganMoreThanASecondAhead() {
        for (int age : new int[] {0, 1, 999, 1000, 1001, 5000}) {
            for (int life = 0; life <= 1; life++) {
                for (int unique = 0; unique <= 1; unique++) {
                    CableNames x = host(1);
                    hear(x, 0, 9000, "w", 1);
                    x.go(age);
                    hear(x, unique, life, "W", 2);
                    int dying = age > 1000 && life > 0 && unique == 1 ? 1 : 0;
                    CHECK.same("5.: of age " + age + " it is dying", x.entry(0, 0, 5), dying);
                    CHECK.same("5.: its end", x.entry(0, 0, 6), dying == 1 ? 1000 : 9000 - age);
                }
            }
        }
        // Its beginning counts, which is new when it is heard again.
        CableNames x = host(1);
        hear(x, 0, 9000, "w", 1);
        x.go(5000);
        hear(x, 0, 9000, "w", 1);
        x.go(1000);
        hear(x, 1, 9000, "w", 2);
        CHECK.same("5.: it began 1000 ahead", x.entry(0, 0, 5), 0);
        x.go(1);
        hear(x, 1, 9000, "w", 2);
        CHECK.same("5.: it began 1001 ahead", x.entry(0, 0, 5), 1);
        CHECK.same("5.: the one told is not", x.entry(0, 1, 5), 0);
    }

    private static void uniqueAndOthers() {
        CableNames x = host(1);
        Check.give(x, 0, Check.answer(Check.recordOfName(0, 2500, "w", 1), Check.recordOfName(0, 9000, "v", 1),
            Check.recordOfName(0, 9000, "ww", 1), Check.recordOfType(0, 9000, "w", "n", 1),
            Check.recordOfType(0, 9000, "v", "w", 1), Check.recordOfName(0, 9000, "w", 2)));
        x.go(2000);
        hear(x, 1, 9000, "w", 2);
        int[] dying = {1, 0, 0, 0, 0, 0};
        for (int k = 0; k < 6; k++) {
            CHECK.same("5.: told is one that is there, entry " + k, x.entry(0, k, 5), dying[k]);
        }
        CHECK.same("5.: an end ahead of 1000 from now stays", x.entry(0, 0, 6), 500);
        CHECK.same("5.: the one told begins now", x.entry(0, 5, 3), 2000);
        Check.give(x, 0, Check.answer(Check.recordOfType(1, 9000, "W", "m", 1)));
        CHECK.same("5.: of sort 2, too", x.entry(0, 3, 5), 1);
        CHECK.same("5.: not of another type", x.entry(0, 4, 5), 0);
        CHECK.same("5.: nor of sort 1", x.entry(0, 5, 5), 0);
    }

    /** The times of the asks of a life: 80, 85, 90, 95 hundredths, cut. */
    private static void hundredthsAreCut() {
        int[] lives = {1, 2, 5, 6, 7, 10, 19, 20, 21, 99, 100, 101, 119, 1003, 4999};
        for (int life : lives) {
            CableNames x = host(1);
            Check.ask(x, 0, 1, "q");
            x.go(8000);
            int asks = x.count(8);
            hear(x, 0, life, "q", 1);
            int last = Math.min(life, 7000);
            for (int later = 0; later <= last; later++) {
                x.go(later == 0 ? 0 : 1);
                int due = 0;
                for (int hundredths : new int[] {80, 85, 90, 95}) {
                    due += life * hundredths / 100 <= later ? 1 : 0;
                }
                CHECK.same("5.: asks of a life of " + life + ", " + later + " later", x.count(8) - asks, due);
            }
            CHECK.same("5.: it has ended", x.look(0, 8), 0);
        }
        // The longest life: 80 hundredths of it are beyond what an int holds on the way.
        CableNames x = host(1);
        Check.ask(x, 0, 1, "q");
        hear(x, 0, Integer.MAX_VALUE, "q", 1);
        goTo(x, 60000);
        CHECK.same("5.: the question's asks alone", x.count(8), 6);
        CHECK.same("5.: it is there", x.look(0, 8), 1);
        CableNames y = host(1);
        Check.ask(y, 0, 1, "q");
        hear(y, 0, 30000000, "q", 1);
        goTo(y, 60000);
        CHECK.same("5.: likewise", y.count(8), 6);
    }

    private static void askedOnceEach() {
        CableNames x = host(1);
        Check.ask(x, 0, 1, "q");
        Check.ask(x, 0, 1, "Q");
        x.go(8000);
        int asks = x.count(8);
        hear(x, 0, 1000, "q", 1);
        hear(x, 0, 1000, "q", 2);
        x.go(800);
        CHECK.same("5.: once for each entry, not for each question", x.count(8), asks + 2);
        CHECK.same("5.: without records", x.sent(4), 0);
        hear(x, 0, 1000, "q", 1);
        x.go(50);
        CHECK.same("5.: one that began anew is not at 85", x.count(8), asks + 3);
        x.go(750);
        CHECK.same("5.: 90 and 95 of the other one, 80 of this one", x.count(8), asks + 6);
        // The questions were due at 31, 1031, 3031, 7031, and stay due at 15031.
        goTo(x, 15030);
        asks = x.count(8);
        goTo(x, 15031);
        CHECK.same("5.: nothing else of the questions changes", x.count(8), asks + 2);
        CHECK.same("5.: none of this is saved", x.look(0, 10), 0);
    }

    private static void questionIsOpenThen() {
        String[] words = {"q", "Q", "r", "qq"};
        for (String word : words) {
            for (int sort = 1; sort <= 2; sort++) {
                for (int at : new int[] {799, 800, 801}) {
                    CableNames x = host(9);
                    hear(x, 0, 1000, "q", 1);
                    x.go(Math.min(at, 799));
                    if (at <= 799) {
                        Check.ask(x, 0, sort, word);
                    }
                    x.go(1);
                    boolean of = sort == 1 && word.equalsIgnoreCase("q");
                    CHECK.same("5.: asked at 80 hundredths", x.count(8), of && at <= 799 ? 1 : 0);
                    if (at > 799) {
                        Check.ask(x, 0, sort, word);
                        x.go(49);
                        CHECK.same("5.: not later than due", x.count(8), 0);
                        x.go(1);
                        CHECK.same("5.: asked at 85 hundredths", x.count(8), of ? 1 : 0);
                    }
                }
            }
        }
        CableNames x = host(9);
        hear(x, 0, 1000, "q", 1);
        Check.ask(x, 0, 1, "q");
        x.go(799);
        x.close(0, 0);
        int asks = x.count(8);
        x.go(201);
        CHECK.same("5.: closed ahead of it", x.count(8), asks);
        CHECK.same("5.: it ended", x.look(0, 8), 0);
    }

    private static void dyingAsksNoMore() {
        CableNames x = host(1);
        Check.ask(x, 0, 1, "q");
        x.go(8000);
        int asks = x.count(8);
        hear(x, 0, 1000, "q", 1);
        x.go(800);
        CHECK.same("5.: at 80", x.count(8), asks + 1);
        hear(x, 0, 0, "q", 1);
        x.go(199);
        CHECK.same("5.: dying, no more", x.count(8), asks + 1);
        hear(x, 0, 1000, "q", 1);
        x.go(799);
        CHECK.same("5.: it lives again, not yet", x.count(8), asks + 1);
        x.go(1);
        CHECK.same("5.: at 80 again", x.count(8), asks + 2);
    }

    private static void dyingIsFound() {
        CableNames x = host(1);
        Check.ask(x, 0, 1, "q");
        hear(x, 0, 9000, "q", 1);
        hear(x, 0, 9000, "q", 2);
        hear(x, 0, 0, "q", 1);
        CHECK.same("17: one that is dying is in the cache still", x.answers(0, 0), 2);
        CHECK.same("18: the end of the dying one", x.found(0, 0, 0, 1), 1000);
        CHECK.same("18: the end of the other one", x.found(0, 0, 1, 1), 9000);
        x.go(999);
        CHECK.same("17: one ahead of its end", x.answers(0, 0), 2);
        CHECK.same("18: its end less now", x.found(0, 0, 0, 1), 1);
        x.go(1);
        CHECK.same("17: at its end", x.answers(0, 0), 1);
        CHECK.same("18: the other one is the first one", x.found(0, 0, 0, 0), 2);
        CHECK.same("18: none behind it", x.found(0, 0, 1, 0), NONE);
    }
}
