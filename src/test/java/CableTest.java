import java.util.NoSuchElementException;

/** Promises 10 (go), 11 (split), 12 (join), 13 (lose), 15 (look), 20 (count) and 22 (sent). */
final class CableTest {
    private static final Check CHECK = new Check("CableTest");

    public static void main(String[] args) {
        goRefuses();
        goDoesNowFirst();
        actionsInOrder();
        queueGoesAheadOfActions();
        stepByStepIsTheSame();
        splitParts();
        packetsGoToThePartOfTheirSender();
        senderDoesNotHearItself();
        joinTellsAgain();
        joinSettlesConflicts();
        loseRefusesAndLoses();
        lookTells();
        lookThrows();
        countTells();
        sentTells();
        longRunEnds();
        moreThanTheQueueHolds();
        CHECK.done();
    }

    private static void goRefuses() {
        CableNames x = new CableNames();
        x.on(0, 200);
        CHECK.same("10: -1", x.go(-1), -1);
        CHECK.same("10: 20001", x.go(20001), -1);
        CHECK.same("10: far below", x.go(Integer.MIN_VALUE), -1);
        CHECK.same("10: far beyond", x.go(Integer.MAX_VALUE), -1);
        CHECK.same("10: nothing happens", x.count(1), 0);
        CHECK.same("10: not to the time", x.count(0), 0);
        CHECK.same("10: 0", x.go(0), 0);
        CHECK.same("10: 1", x.go(1), 1);
        CHECK.same("10: 20000", x.go(20000), 20001);
        CHECK.same("10: the time", x.count(0), 20001);
    }

    /** Id 200 is due at once: (31 * 200) modulo 200 is 0. */
    private static void goDoesNowFirst() {
        CableNames x = new CableNames();
        x.go(7);
        x.on(0, 200);
        CHECK.same("10: nothing by on itself", x.count(1), 0);
        x.go(0);
        CHECK.same("10: the millisecond of now", x.count(1), 1);
        CHECK.same("10: its time", x.count(10), 7);
        x.go(0);
        CHECK.same("10: once", x.count(1), 1);
        x.on(1, 400);
        x.go(1);
        CHECK.same("10: now, ahead of one more", x.count(10), 7);
    }

    private static void actionsInOrder() {
        CableNames x = new CableNames();
        x.on(1, 400);
        x.on(0, 200);
        x.go(0);
        CHECK.same("1.: both are due", x.count(5), 2);
        CHECK.sent("1.: host 1 behind host 0", x, 1, 37776 >> 8, 37776 & 255, 1, 144);

        // Id 1: address and question are both due at 31.
        CableNames y = new CableNames();
        y.on(0, 1);
        Check.ask(y, 0, 1, "b");
        Check.ask(y, 0, 1, "a");
        y.go(31);
        CHECK.same("1.: address, then questions", y.count(1), 3);
        CHECK.sent("1.: question 1 behind question 0", y, 4, 1, 1, 'a', 0);

        // Id 100: a name's telling, a question, a reply and an entry are due at once; the entry asks last.
        CableNames z = new CableNames();
        z.on(0, 100);
        z.go(5000);
        Check.claim(z, 0, "n");
        Check.service(z, 0, "t", 1);
        z.go(4980);
        CHECK.same("1.: it holds its name", z.look(0, 4), 3);
        int answers = z.count(9);
        Check.give(z, 0, Check.bytes(4, 2, 1, 't', 0));
        Check.ask(z, 0, 1, "q");
        Check.give(z, 0, Check.answer(Check.recordOfName(0, 25, "q", 5)));
        z.go(19);
        CHECK.same("1.: nothing yet", z.count(8), 0);
        z.go(1);
        CHECK.same("1.: the reply", z.count(9), answers + 1);
        CHECK.same("1.: the question and the entry", z.count(8), 2);
        CHECK.sent("1.: the entry is the last one", z, 4, 1, 1, 'q', 0);
    }

    /** Host 7 asks for a name: host 0's answer is heard ahead of host 7's next action in that millisecond. */
    private static void queueGoesAheadOfActions() {
        CableNames x = new CableNames();
        x.on(0, 2);
        Check.claim(x, 0, "n");
        x.go(10000);
        x.on(7, 1);
        x.go(20);
        Check.ask(x, 7, 1, "n");
        Check.ask(x, 7, 1, "N");
        x.go(31);
        CHECK.same("1.: both asked", x.count(8), 2);
        CHECK.sent("1.: the second one knew the first one's answer", x, 4, 1, 1, 'N', 1, 2, 2);
        CHECK.same("1.: so it is answered once", x.look(7, 8), 1);
    }

    private static CableNames busy() {
        CableNames x = new CableNames();
        for (int k = 0; k < 8; k++) {
            x.on(k, k < 4 ? k + 1 : 65025 + k - 4);
            Check.claim(x, k, k % 2 == 0 ? "Box" : "box");
            Check.service(x, k, "lamp", k);
            Check.ask(x, k, 2, "LAMP");
            Check.ask(x, k, 1, "box-2");
        }
        return x;
    }

    private static void stepByStepIsTheSame() {
        CableNames x = busy();
        CableNames y = busy();
        for (int k = 0; k < 12; k++) {
            int length = k < 9 ? 1000 : 20000;
            x.go(length);
            for (int step = 0; step < length; step++) {
                y.go(1);
            }
            for (int what = 0; what < 11; what++) {
                CHECK.same("10: count " + what, x.count(what), y.count(what));
            }
            for (int host = 0; host < 8; host++) {
                for (int what = 0; what < 12; what++) {
                    CHECK.same("10: look " + what, x.look(host, what), y.look(host, what));
                }
            }
        }
        for (int host = 0; host < 8; host++) {
            CHECK.same("10: every host holds a name", x.look(host, 4), 3);
            CHECK.same("10: and found the services of the others", x.answers(host, 0), 7);
        }
    }

    private static void splitParts() {
        CableNames x = new CableNames();
        x.on(0, 1);
        x.split(0xffffff02);
        for (int k = 0; k < 8; k++) {
            CHECK.same("11: part of " + k, x.look(k, 9), k == 1 ? 1 : 0);
        }
        x.split(129);
        for (int k = 0; k < 8; k++) {
            CHECK.same("11: in place of the one ahead, " + k, x.look(k, 9), k == 0 || k == 7 ? 1 : 0);
        }
        x.on(7, 2);
        x.on(3, 3);
        x.go(31);
        CHECK.same("11: heard in its part alone", x.count(3), 1);
        x.split(0);
        x.go(62 - 31);
        CHECK.same("11: heard by both", x.count(3), 3);
        x.join();
        x.split(-1);
        CHECK.same("11: all in part 1", x.look(4, 9), 1);
        x.join();
        for (int k = 0; k < 8; k++) {
            CHECK.same("12: part of " + k, x.look(k, 9), 0);
        }
    }

    private static void packetsGoToThePartOfTheirSender() {
        CableNames x = new CableNames();
        x.on(0, 1);
        Check.claim(x, 0, "n");
        x.on(1, 2);
        x.on(2, 3);
        x.go(5000);
        int heard = x.count(3);
        x.off(0, true);
        x.split(1 | 2);
        x.go(0);
        CHECK.same("1.: its part was 0 as it was sent", x.count(3), heard + 1);
        CHECK.same("1.: one in part 0 hears it", x.entry(2, 0, 5), 1);
        CHECK.same("1.: one that is in part 1 now does not", x.entry(1, 0, 5), 0);
    }

    private static void senderDoesNotHearItself() {
        CableNames x = new CableNames();
        x.on(0, 1);
        Check.claim(x, 0, "n");
        x.go(5000);
        x.off(0, true);
        x.on(0, 9);
        x.go(0);
        CHECK.same("1.: all but its sender", x.count(3), 0);
        x.on(1, 2);
        x.go(400);
        CHECK.yes("1.: the others", x.count(3) > 0);
    }

    /** Ids 1 and 300: due 31 and 100 from now for the address, 13 for the name; id 60 has its name's at 30. */
    private static void joinTellsAgain() {
        CableNames x = new CableNames();
        x.on(0, 1);
        x.on(1, 300);
        Check.claim(x, 0, "n");
        x.go(10000);
        x.on(2, 2);
        int told = x.count(6);
        int answers = x.count(9);
        x.join();
        x.go(12);
        CHECK.same("12: no name yet", x.count(9), answers);
        x.go(1);
        CHECK.same("12: the name's records", x.count(9), answers + 1);
        CHECK.same("12: no address yet", x.count(6), told);
        x.go(17);
        CHECK.same("12: nor now", x.count(6), told);
        x.go(1);
        CHECK.same("12: the first address", x.count(6), told + 1);
        x.go(68);
        CHECK.same("12: not yet the second one", x.count(6), told + 1);
        x.go(1);
        CHECK.same("12: the second one", x.count(6), told + 2);
        x.go(5000);
        CHECK.same("12: once each, and the new host its own two", x.count(6), told + 4);
        CHECK.same("12: records once", x.count(9), answers + 1);

        // A step 4 that is not done yet comes ahead of its time, and is not done twice.
        CableNames y = new CableNames();
        y.on(0, 1);
        y.go(631);
        y.join();
        y.go(31);
        CHECK.same("12: ahead of its time", y.count(6), 2);
        y.go(5000);
        CHECK.same("12: not twice", y.count(6), 2);
        CableNames w = new CableNames();
        w.on(0, 60);
        Check.claim(w, 0, "n");
        w.go(10000);
        answers = w.count(9);
        w.join();
        w.go(29);
        CHECK.same("12: 780 modulo 250 is 30", w.count(9), answers);
        w.go(1);
        CHECK.same("12: it tells", w.count(9), answers + 1);
        CableNames z = new CableNames();
        z.on(0, 1);
        z.go(40);
        z.join();
        z.go(5000);
        CHECK.same("12: one that probes goes on as it was", z.count(5), 3);
    }

    /** Two hosts took the same address and name in two parts; the join makes one of each yield. */
    private static void joinSettlesConflicts() {
        CableNames x = new CableNames();
        x.split(2);
        x.on(0, 1);
        x.on(1, 65025);
        Check.claim(x, 0, "n");
        Check.claim(x, 1, "n");
        x.go(10000);
        CHECK.same("12: two holders", x.holders(257), 2);
        CHECK.same("12: both hold the name", x.look(0, 4) + x.look(1, 4), 6);
        x.join();
        x.go(31);
        // At 31 the first one tells, the second one defends, the first one defends, the second one moves on.
        CHECK.same("12: one moved on", x.look(1, 3), 1);
        CHECK.same("12: one did not", x.look(0, 3), 0);
        CHECK.same("12: one holder", x.holders(257), 1);
        x.go(10000);
        CHECK.same("12: each has a name", x.look(0, 4) + x.look(1, 4), 6);
        CHECK.named("12: one has it", x, 0, "n");
        CHECK.named("12: one renamed", x, 1, "n-2");
    }

    private static void loseRefusesAndLoses() {
        CableNames x = new CableNames();
        CHECK.no("13: off", x.lose(0, 1));
        CHECK.no("13: host -1", x.lose(-1, 1));
        CHECK.no("13: host 8", x.lose(8, 1));
        x.on(0, 1);
        CHECK.no("13: -1", x.lose(0, -1));
        CHECK.no("13: 1001", x.lose(0, 1001));
        CHECK.yes("13: 1000", x.lose(0, 1000));
        CHECK.yes("13: in place of what was told", x.lose(0, 2));
        x.on(1, 65025);
        x.on(2, 7);
        x.go(16);
        CHECK.same("13: none lost yet", x.count(4), 0);
        // Host 2 sends at 17 and 217, host 0 at 31, host 1 at 223, as it moved on at 31.
        x.go(217 - 16);
        CHECK.same("13: two lost", x.count(4), 2);
        CHECK.same("13: lost ones are not heard", x.count(3), 4);
        x.go(223 - 217);
        CHECK.same("13: the next one is heard", x.count(3), 6);
        CHECK.same("13: it was to lose two", x.count(4), 2);
        x.lose(0, 9);
        CHECK.yes("13: none", x.lose(0, 0));
        x.go(5000);
        CHECK.same("13: no more lost", x.count(4), 2);
        x.lose(0, 1);
        x.split(1);
        x.join();
        x.off(1, false);
        x.go(200);
        CHECK.same("13: one more", x.count(4), 3);

        // What is lost is not taken: the greater id does not hear the probe of its address.
        CableNames y = new CableNames();
        y.on(0, 1);
        y.on(1, 65025);
        y.lose(1, 1);
        y.go(31);
        CHECK.same("13: it did not move on", y.look(1, 3), 0);
        CHECK.same("13: lost", y.count(4), 1);
        CHECK.same("13: not heard", y.count(3), 0);
    }

    private static void lookTells() {
        CableNames x = new CableNames();
        x.split(4);
        x.on(2, 77);
        int[] first = {1, 77, -1, 0, 0, 0, 0, 0, 0, 1, 0, 0};
        for (int what = 0; what < 12; what++) {
            CHECK.same("15: a new one, " + what, x.look(2, what), first[what]);
        }
        Check.give(x, 2, Check.join(Check.bytes(2), Check.pair(77 * 257), Check.pair(1)));
        Check.claim(x, 2, "n");
        Check.service(x, 2, "t", 1);
        Check.ask(x, 2, 1, "q");
        Check.ask(x, 2, 2, "q");
        Check.ask(x, 2, 2, "r");
        Check.give(x, 2, Check.answer(Check.recordOfName(0, 90000, "q", 1)));
        Check.give(x, 2, Check.bytes(0));
        Check.give(x, 2, Check.bytes(4, 1, 1, 'q', 0));
        x.go(10000);
        int[] then = {1, 77, 77 * 257 + 4093, 1, 3, 1, 1, 3, 1, 1, 1, 1};
        for (int what = 0; what < 12; what++) {
            CHECK.same("15: look " + what, x.look(2, what), then[what]);
        }
    }

    private static int thrown(CableNames x, int host, int what) {
        try {
            x.look(host, what);
            return 0;
        } catch (IndexOutOfBoundsException e) {
            return 1;
        } catch (NoSuchElementException e) {
            return 2;
        }
    }

    private static void lookThrows() {
        CableNames x = new CableNames();
        x.on(1, 1);
        for (int host = 0; host < 2; host++) {
            for (int what = 0; what < 12; what++) {
                CHECK.same("15: throws nothing", thrown(x, host, what), 0);
            }
            CHECK.same("15: what -1", thrown(x, host, -1), 2);
            CHECK.same("15: what 12", thrown(x, host, 12), 2);
            CHECK.same("15: what far beyond", thrown(x, host, Integer.MAX_VALUE), 2);
        }
        CHECK.same("15: host -1", thrown(x, -1, 0), 1);
        CHECK.same("15: host 8", thrown(x, 8, 0), 1);
        CHECK.same("15: host far below", thrown(x, Integer.MIN_VALUE, 9), 1);
        CHECK.same("15: neither", thrown(x, 8, 12), 1);
    }

    private static void countTells() {
        CableNames x = new CableNames();
        x.on(0, 1);
        x.on(1, 2);
        Check.claim(x, 0, "n");
        Check.ask(x, 1, 1, "n");
        x.go(2000);
        // Host 0: 3 APROBES, ATELL, 3 NPROBES, ANSWER. Host 1: at 42, 1042 ASKS; 3 APROBES, ATELL.
        int[] due = {2000, 14, 0, 14, 0, 6, 2, 3, 2, 1, 1394};
        due[2] = 6 * 5 + 2 * 5 + 3 * 7 + 2 * 5 + 12;
        for (int what = 0; what < 11; what++) {
            CHECK.same("20: count " + what, x.count(what), due[what]);
        }
        CHECK.same("20: -1", x.count(-1), -1);
        CHECK.same("20: 11", x.count(11), -1);
        CHECK.same("20: far below", x.count(Integer.MIN_VALUE), -1);
        CHECK.same("20: far beyond", x.count(Integer.MAX_VALUE), -1);
    }

    private static void sentTells() {
        CableNames x = new CableNames();
        CHECK.same("22: none", x.sent(0), -1);
        x.on(0, 65535);
        x.go(199);
        CHECK.sent("22: the latest", x, Check.join(Check.bytes(1), Check.pair(257 * 65535 % 65024), Check.pair(65535)));
        CHECK.same("22: -1", x.sent(-1), -1);
        CHECK.same("22: far below", x.sent(Integer.MIN_VALUE), -1);
        CHECK.same("22: far beyond", x.sent(Integer.MAX_VALUE), -1);
        CHECK.same("22: 200", x.sent(200), -1);
        x.off(0, false);
        CHECK.same("22: it stays the latest", x.sent(0), 1);
    }

    /** Far beyond 512 calls any answer is right, but none may be the machine's own exception. */
    private static void moreThanTheQueueHolds() {
        CableNames x = new CableNames();
        x.on(0, 1);
        x.on(1, 2);
        x.go(5000);
        for (int k = 0; k < 5000; k++) {
            Check.give(x, 0, Check.bytes(1, 1, 1, 0, 9));
        }
        CHECK.sent("14: it answers", x, 2, 1, 1, 0, 1);
        CHECK.same("10: go ends", x.go(20000), 25000);
        Check.give(x, 0, Check.bytes(1, 1, 1, 0, 9));
        CHECK.same("10: go ends again", x.go(1), 25001);
    }

    /** 512 calls of the longest go with eight hosts that conflict, ask and keep much come to their end. */
    private static void longRunEnds() {
        CableNames x = busy();
        for (int k = 0; k < 460; k++) {
            x.go(20000);
        }
        CHECK.same("10: the time", x.count(0), 460 * 20000);
        for (int host = 0; host < 8; host++) {
            CHECK.same("10: the services are still known", x.answers(host, 0), 7);
        }
    }
}
