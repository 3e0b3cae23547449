/** Promises 8 (ask), 9 (close), 17 (answers) and 18 (found), and questions and replies (terms 4). */
final class QuestionTest {
    private static final Check CHECK = new Check("QuestionTest");

    public static void main(String[] args) {
        askRefuses();
        numbersAndClose();
        asksMoreAndMoreSeldom();
        firstAskIsDue();
        askTellsWhatIsKnown();
        askTellsEightAtMost();
        anotherAskSaves();
        nameIsAnsweredAtOnce();
        typeIsAnsweredLater();
        knownIsNotAnswered();
        replyTellsWhatIsThereThen();
        fourRepliesAtMost();
        foundAnswers();
        CHECK.done();
    }

    private static int[] asked(int sort, String word, int... known) {
        return Check.join(Check.bytes(4, sort), Check.word(word), known.length == 0 ? Check.bytes(0) : known);
    }

    /** Id 2 holds 514, the name n, and has services of the types t and u. */
    private static CableNames serving() {
        CableNames x = new CableNames();
        x.on(0, 2);
        Check.claim(x, 0, "n");
        Check.service(x, 0, "t", 7);
        Check.service(x, 0, "T", 8);
        Check.service(x, 0, "u", 9);
        x.go(10000);
        return x;
    }

    private static void askRefuses() {
        CableNames x = new CableNames();
        Check.tape(x, "w");
        CHECK.same("8: off", x.ask(0, 1), -1);
        CHECK.same("8: host -1", x.ask(-1, 1), -1);
        CHECK.same("8: host 8", x.ask(8, 1), -1);
        x.on(0, 1);
        CHECK.same("8: sort 0", x.ask(0, 0), -1);
        CHECK.same("8: sort 3", x.ask(0, 3), -1);
        CHECK.same("8: the tape stays", x.end(1), 1);
        CHECK.same("8: no word", Check.ask(x, 0, 1, "w!"), -1);
        x.end(0);
        CHECK.same("8: an empty tape", x.ask(0, 1), -1);
        CHECK.same("8: none open", x.look(0, 7), 0);
        CHECK.same("8: the first one", Check.ask(x, 0, 1, "w"), 0);
        CHECK.same("8: the tape is empty", x.end(1), -1);
    }

    private static void numbersAndClose() {
        CableNames x = new CableNames();
        CHECK.no("9: off", x.close(0, 0));
        x.on(0, 1);
        for (int k = 0; k < 4; k++) {
            CHECK.no("9: not open yet", x.close(0, k));
            CHECK.same("8: number", Check.ask(x, 0, 1 + k % 2, "w"), k);
            CHECK.same("8: open", x.look(0, 7), k + 1);
        }
        CHECK.same("8: four are open", Check.ask(x, 0, 1, "w"), -1);
        CHECK.no("9: -1", x.close(0, -1));
        CHECK.no("9: 4", x.close(0, 4));
        CHECK.no("9: host -1", x.close(-1, 0));
        CHECK.no("9: host 8", x.close(8, 0));
        CHECK.yes("9: 2", x.close(0, 2));
        CHECK.no("9: 2 again", x.close(0, 2));
        CHECK.yes("9: 1", x.close(0, 1));
        CHECK.same("9: two are left", x.look(0, 7), 2);
        CHECK.same("8: the least that is free", Check.ask(x, 0, 2, "v"), 1);
        CHECK.same("8: then the next", Check.ask(x, 0, 2, "v"), 2);
        for (int k = 0; k < 4; k++) {
            x.close(0, k);
        }
        x.go(1000);
        CHECK.same("9: closed ones do not ask", x.count(8), 0);
    }

    /** Id 1: due at 20 and 11, then 1000, 2000 .. 64000, 64000 on. */
    private static void asksMoreAndMoreSeldom() {
        CableNames x = new CableNames();
        x.on(0, 1);
        Check.ask(x, 0, 2, "Word");
        int[] times = {31, 1031, 3031, 7031, 15031, 31031, 63031, 127031, 191031, 255031};
        for (int k = 0; k < times.length; k++) {
            while (times[k] - 1 - x.count(0) > 0) {
                x.go(Math.min(20000, times[k] - 1 - x.count(0)));
            }
            CHECK.same("4.: asks ahead of " + times[k], x.count(8), k);
            x.go(1);
            CHECK.same("4.: asks at " + times[k], x.count(8), k + 1);
            CHECK.sent("4.: ask " + k, x, asked(2, "Word"));
        }
        x.close(0, 0);
        Check.ask(x, 0, 1, "v");
        x.go(31);
        CHECK.sent("4.: a new one in its place begins anew", x, asked(1, "v"));
        x.go(999);
        CHECK.same("4.: its wait", x.count(8), times.length + 1);
        x.go(1);
        CHECK.same("4.: its wait is 1000", x.count(8), times.length + 2);
    }

    private static void firstAskIsDue() {
        int[] ids = {9, 10, 100, 65535};
        int[] dues = {119, 30, 20, 20 + 85};
        for (int k = 0; k < ids.length; k++) {
            CableNames x = new CableNames();
            x.on(0, ids[k]);
            Check.ask(x, 0, 1, "w");
            x.go(dues[k] - 1);
            CHECK.same("4.: id " + ids[k] + " is not due", x.count(8), 0);
            x.go(1);
            CHECK.same("4.: id " + ids[k] + " is due", x.count(8), 1);
        }
    }

    /** It asks at 31 and 1031: of lives of 62 and 2062 just half is left then, of 63 and 2063 more. */
    private static void askTellsWhatIsKnown() {
        int[] lives = {62, 63, 2062, 2063};
        for (int life : lives) {
            CableNames x = new CableNames();
            x.on(0, 1);
            Check.give(x, 0, Check.answer(Check.recordOfName(0, life, "v", 5), Check.recordOfType(0, life, "w", "n", 6),
                Check.recordOfName(0, 1600, "w", 7), Check.recordOfName(0, life, "W", 770)));
            // Of this one too little is left at 1031; at 31 it is gone already.
            Check.give(x, 0, Check.answer(Check.recordOfName(0, life < 2000 ? 30 : 1600, "w", 7)));
            Check.ask(x, 0, 1, "w");
            x.go(life < 2000 ? 31 : 1031);
            if (life % 2 == 0) {
                CHECK.sent("4.: half of " + life, x, asked(1, "w"));
            } else {
                CHECK.sent("4.: more than half of " + life, x, asked(1, "w", 1, 3, 2));
            }
        }
        CableNames x = new CableNames();
        x.on(0, 1);
        Check.give(x, 0, Check.answer(Check.recordOfName(0, 1500, "w", 770)));
        Check.give(x, 0, Check.answer(Check.recordOfName(0, 0, "w", 770)));
        Check.ask(x, 0, 1, "w");
        x.go(31);
        CHECK.sent("4.: what is left till its END counts, dying or not", x, asked(1, "w", 1, 3, 2));
    }

    private static void askTellsEightAtMost() {
        CableNames x = new CableNames();
        x.on(0, 1);
        int[] known = Check.bytes(8);
        for (int k = 0; k < 10; k++) {
            Check.give(x, 0, Check.answer(Check.recordOfType(0, 9000, "w", k % 2 == 0 ? "one" : "Two", k)));
            if (k < 8) {
                int[] name = k == 0 ? Check.word("one") : k == 1 ? Check.word("Two")
                    : Check.bytes(128 + (k % 2 == 0 ? 5 : 11));
                known = Check.join(known, name, Check.pair(k));
            }
        }
        Check.ask(x, 0, 2, "w");
        x.go(31);
        CHECK.sent("4.: the first eight, in order", x, asked(2, "w", known));

        // Seven names of fifteen signs: the last one stands at place 127, the highest to lead back to.
        CableNames y = new CableNames();
        y.on(0, 1);
        known = Check.bytes(8);
        for (int k = 0; k < 8; k++) {
            String name = "name-of-signs-" + (char) ('a' + Math.min(k, 6));
            Check.give(y, 0, Check.answer(Check.recordOfType(0, 9000, "fifteen-signs-x", name, k)));
            int[] written = k == 7 ? Check.bytes(128 + 127) : Check.word(name);
            known = Check.join(known, written, Check.pair(k));
        }
        Check.ask(y, 0, 2, "fifteen-signs-x");
        y.go(31);
        CHECK.sent("6.: words led back to", y, asked(2, "fifteen-signs-x", known));
    }

    private static void anotherAskSaves() {
        for (int ahead = 99; ahead <= 101; ahead++) {
            CableNames x = new CableNames();
            x.on(0, 9);
            Check.ask(x, 0, 1, "w");
            x.go(119 - ahead);
            Check.give(x, 0, asked(2, "w"));
            Check.give(x, 0, asked(1, "v"));
            CHECK.same("4.: another question saves nothing", x.look(0, 10), 0);
            Check.give(x, 0, asked(1, "W"));
            boolean saves = ahead <= 100;
            CHECK.same("4.: saved, " + ahead + " ahead", x.look(0, 10), saves ? 1 : 0);
            x.go(ahead);
            CHECK.same("4.: asked, " + ahead + " ahead", x.count(8), saves ? 0 : 1);
            // It counts as asked at 119, so it is due at 1119, and then 2000 later.
            x.go(999);
            CHECK.same("4.: asked ahead of 1119", x.count(8), saves ? 0 : 1);
            x.go(1);
            CHECK.same("4.: asked at 1119", x.count(8), saves ? 1 : 2);
            x.go(1999);
            CHECK.same("4.: asked ahead of 3119", x.count(8), saves ? 1 : 2);
            x.go(1);
            CHECK.same("4.: asked at 3119", x.count(8), saves ? 2 : 3);
        }
        // Ids 1 and 2 are due at 31 and 42; the second one hears the first one's question.
        CableNames y = new CableNames();
        y.on(0, 1);
        y.on(1, 2);
        Check.ask(y, 0, 2, "lamp");
        Check.ask(y, 1, 2, "LAMP");
        y.go(500);
        CHECK.same("4.: one asked for both", y.count(8), 1);
        CHECK.same("4.: the first saved none", y.look(0, 10), 0);
        CHECK.same("4.: the second one", y.look(1, 10), 1);
    }

    private static void nameIsAnsweredAtOnce() {
        CableNames x = serving();
        int told = x.count(9);
        Check.give(x, 0, asked(1, "N"));
        CHECK.same("4.: at once", x.count(9), told + 1);
        CHECK.sent("4.: its address", x, Check.answer(Check.recordOfName(1, 120000, "n", 514)));
        Check.give(x, 0, asked(1, "t"));
        Check.give(x, 0, asked(1, "nn"));
        Check.give(x, 0, asked(1, "n", 1, 2, 2));
        CHECK.same("4.: not of another name, nor what is told", x.count(9), told + 1);
        Check.give(x, 0, asked(1, "n", 2, 0, 1, 0, 2));
        CHECK.same("4.: told is another address", x.count(9), told + 2);
        x.go(1000);
        CHECK.same("4.: once each", x.count(9), told + 2);

        CableNames y = new CableNames();
        y.on(0, 2);
        y.go(5000);
        Check.claim(y, 0, "n");
        y.go(100);
        Check.give(y, 0, asked(1, "n"));
        CHECK.same("4.: one that probes its name does not answer", y.count(9), 0);
    }

    /** Id 2: due 20 and 14 later. Id 15: 20 and 5, as 7 * 15 is 105. */
    private static void typeIsAnsweredLater() {
        CableNames x = serving();
        int told = x.count(9);
        Check.give(x, 0, asked(2, "t"));
        x.go(10);
        Check.give(x, 0, asked(2, "T"));
        x.go(23);
        CHECK.same("4.: not yet", x.count(9), told);
        x.go(1);
        CHECK.same("4.: 34 later", x.count(9), told + 1);
        CHECK.sent("4.: what it has of the word", x, Check.join(Check.bytes(5, 2),
            Check.recordOfType(0, 120000, "t", "n", 7),
            Check.bytes(2, 0), Check.four(120000), Check.word("T"), Check.bytes(128 + 10, 0, 8)));
        x.go(1000);
        CHECK.same("4.: the second ASK had it open already", x.count(9), told + 1);
        Check.give(x, 0, asked(2, "v"));
        x.go(1000);
        CHECK.same("4.: not of another word", x.count(9), told + 1);
        Check.give(x, 0, asked(2, "u"));
        x.go(34);
        CHECK.sent("4.: another type", x, Check.answer(Check.recordOfType(0, 120000, "u", "n", 9)));

        CableNames y = new CableNames();
        y.on(0, 15);
        Check.claim(y, 0, "n");
        Check.service(y, 0, "t", 7);
        y.go(10000);
        told = y.count(9);
        Check.give(y, 0, asked(2, "t"));
        y.go(24);
        CHECK.same("4.: id 15 is not due", y.count(9), told);
        y.go(1);
        CHECK.same("4.: id 15 is due", y.count(9), told + 1);
    }

    private static void knownIsNotAnswered() {
        CableNames x = serving();
        int told = x.count(9);
        Check.give(x, 0, asked(2, "t", 2, 1, 'N', 0, 8, 1, 'n', 0, 7));
        x.go(200);
        CHECK.same("4.: all told", x.count(9), told);
        Check.give(x, 0, asked(2, "t", 2, 1, 'm', 0, 8, 1, 'n', 0, 7));
        x.go(200);
        CHECK.same("4.: one is another's", x.count(9), told + 1);
        CHECK.same("4.: then all of them are told", x.sent(1), 2);
        Check.give(x, 0, asked(2, "t", 2, 1, 'n', 1, 8, 1, 'n', 0, 7));
        x.go(200);
        CHECK.same("4.: one has another port", x.count(9), told + 2);
    }

    private static void replyTellsWhatIsThereThen() {
        CableNames x = serving();
        Check.give(x, 0, asked(2, "u"));
        Check.service(x, 0, "U", 10);
        x.go(34);
        CHECK.sent("4.: what it has by then", x, Check.join(Check.bytes(5, 2),
            Check.recordOfType(0, 120000, "u", "n", 9),
            Check.bytes(2, 0), Check.four(120000), Check.word("U"), Check.bytes(128 + 10, 0, 10)));
        Check.give(x, 0, asked(2, "u"));
        int told = x.count(9);
        Check.give(x, 0, Check.answer(Check.recordOfName(0, 9, "n", 3)));
        x.go(100);
        CHECK.same("4.: it does not hold its name then", x.count(9), told);
        CHECK.same("4.: it probes it", x.look(0, 4), 2);
        Check.give(x, 0, asked(2, "u"));
        x.go(2000);
        int tellings = 2;
        CHECK.same("4.: nor has it a reply while it probes", x.count(9), told + tellings);
    }

    private static void fourRepliesAtMost() {
        CableNames x = new CableNames();
        x.on(0, 2);
        Check.claim(x, 0, "n");
        for (int k = 0; k < 4; k++) {
            Check.service(x, 0, "t" + k, k);
        }
        x.go(10000);
        int told = x.count(9);
        for (int k = 3; k >= 0; k--) {
            Check.give(x, 0, asked(2, "t" + k));
            x.go(1);
        }
        x.go(29);
        CHECK.same("4.: none is due", x.count(9), told);
        for (int k = 3; k >= 0; k--) {
            x.go(1);
            CHECK.same("4.: one after the other", x.count(9), told + 4 - k);
            CHECK.same("4.: in the order in which they came", x.sent(10), '0' + k);
        }
        for (int round = 0; round < 3; round++) {
            told = x.count(9);
            Check.give(x, 0, asked(2, "t0"));
            x.go(20);
            Check.give(x, 0, asked(2, "t1"));
            Check.give(x, 0, asked(2, "t2"));
            x.go(14);
            CHECK.same("4.: the first one again", x.count(9), told + 1);
            CHECK.same("4.: its word", x.sent(10), '0');
            Check.give(x, 0, asked(2, "t3"));
            Check.give(x, 0, asked(2, "t0"));
            x.go(20);
            CHECK.same("4.: then two", x.count(9), told + 3);
            CHECK.same("4.: the word of the last one", x.sent(10), '2');
            x.go(14);
            CHECK.same("4.: then the others", x.count(9), told + 5);
            CHECK.same("4.: the word of the very last", x.sent(10), '0');
        }
    }

    private static void foundAnswers() {
        CableNames x = new CableNames();
        CHECK.same("17: off", x.answers(0, 0), -1);
        x.on(0, 1);
        CHECK.same("17: not open", x.answers(0, 0), -1);
        Check.ask(x, 0, 2, "lamp");
        Check.ask(x, 0, 1, "lamp");
        CHECK.same("17: none yet", x.answers(0, 0), 0);
        CHECK.same("18: none yet", x.found(0, 0, 0, 0), -1);
        Check.give(x, 0, Check.answer(Check.recordOfType(0, 5000, "lamp", "abc", 7),
            Check.recordOfName(0, 6000, "LAMP", 9), Check.recordOfType(0, 7000, "lAmp", "x", 65535),
            Check.recordOfType(0, 8000, "lamps", "x", 1)));
        x.go(10);
        CHECK.same("17: of sort 2", x.answers(0, 0), 2);
        CHECK.same("17: of sort 1", x.answers(0, 1), 1);
        CHECK.same("17: 2 isn't open", x.answers(0, 2), -1);
        CHECK.same("17: -1", x.answers(0, -1), -1);
        CHECK.same("17: 4", x.answers(0, 4), -1);
        CHECK.same("17: host -1", x.answers(-1, 0), -1);
        CHECK.same("17: host 8", x.answers(8, 0), -1);
        int[][] due = {{7, 4990, 3, -1}, {65535, 6990, 1, -1}};
        for (int k = 0; k < 2; k++) {
            for (int what = 0; what < 4; what++) {
                CHECK.same("18: " + k + ", " + what, x.found(0, 0, k, what), due[k][what]);
            }
            CHECK.same("18: what -1", x.found(0, 0, k, -1), -1);
        }
        CHECK.same("18: the address", x.found(0, 1, 0, 0), 9);
        CHECK.same("18: its end", x.found(0, 1, 0, 1), 5990);
        CHECK.same("18: no service's name", x.found(0, 1, 0, 2), 0);
        CHECK.same("18: k 2", x.found(0, 0, 2, 0), -1);
        CHECK.same("18: k -1", x.found(0, 0, -1, 0), -1);
        CHECK.same("18: not open", x.found(0, 2, 0, 0), -1);
        CHECK.same("18: question 4", x.found(0, 4, 0, 0), -1);
        CHECK.same("18: question -1", x.found(0, -1, 0, 0), -1);
        CHECK.same("18: host 8", x.found(8, 0, 0, 0), -1);
        CHECK.same("18: host -1", x.found(-1, 0, 0, 0), -1);
        x.close(0, 0);
        CHECK.same("17: closed", x.answers(0, 0), -1);
        CHECK.same("18: closed", x.found(0, 0, 0, 0), -1);
        CHECK.same("17: the other one is open", x.answers(0, 1), 1);
    }
}
