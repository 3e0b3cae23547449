/** Promises 6 (claim), 7 (service) and 16 (sign), and names (terms 3). */
final class NameTest {
    private static final Check CHECK = new Check("NameTest");

    public static void main(String[] args) {
        claimRefuses();
        nameWaitsForAddress();
        wishComesLater();
        probesMeetProbes();
        holderAnswersProbe();
        renames();
        longNamesAreCut();
        holderOfContestedNameProbes();
        addressLost();
        serviceRefuses();
        recordsAreTold();
        twoHostsWithOneName();
        signs();
        CHECK.done();
    }

    /** Id 1 holds 257 from 631 on. */
    private static CableNames holding() {
        CableNames x = new CableNames();
        x.on(0, 1);
        x.go(5000);
        return x;
    }

    private static int[] rival(String name, int address) {
        return Check.answer(Check.recordOfName(0, 5000, name, address));
    }

    private static int[] nprobe(String name, int address, int id) {
        return Check.join(Check.bytes(3), Check.word(name), Check.pair(address), Check.pair(id));
    }

    private static void claimRefuses() {
        CableNames x = new CableNames();
        Check.tape(x, "n");
        CHECK.no("6: off", x.claim(0));
        CHECK.no("6: host -1", x.claim(-1));
        CHECK.no("6: host 8", x.claim(8));
        CHECK.same("6: the tape stays", x.end(1), 1);
        x.on(0, 1);
        x.end(0);
        CHECK.no("6: an empty tape", x.claim(0));
        String[] noWords = {" ", "a b", "a_b", "a.b", "@", "[", "`", "{", "/", ":", "sixteen-signs-xx",
            "" + (char) 0, "a" + (char) 225, "a" + (char) 128};
        for (String text : noWords) {
            CHECK.no("6: no word " + text, Check.claim(x, 0, text));
            CHECK.same("6: the tape stays", x.end(text.length()), text.length());
            CHECK.same("6: no wish", x.look(0, 4), 0);
        }
        CHECK.yes("6: a word of all sorts of signs", Check.claim(x, 0, "-AZaz09-mM5-x-Y"));
        CHECK.same("6: the tape is empty", x.end(1), -1);
        CHECK.no("6: it has one", Check.claim(x, 0, "n"));
        CHECK.same("6: it waits", x.look(0, 4), 1);
        x.on(1, 2);
        CHECK.yes("6: one sign", Check.claim(x, 1, "-"));
    }

    private static void nameWaitsForAddress() {
        CableNames x = new CableNames();
        x.on(0, 1);
        Check.claim(x, 0, "ab");
        x.go(630);
        CHECK.same("3.: waits", x.look(0, 4), 1);
        CHECK.same("3.: no sign while it waits", x.sign(0, 0), -1);
        x.go(1);
        CHECK.same("3.: probes", x.look(0, 4), 2);
        CHECK.sent("3.: the address is told", x, 2, 1, 1, 0, 1);
        int[] times = {644, 894, 1144};
        for (int k = 0; k < 3; k++) {
            x.go(times[k] - 1 - x.count(0));
            CHECK.same("3.: ahead of probe " + k, x.count(7), k);
            x.go(1);
            CHECK.same("3.: probe " + k, x.count(7), k + 1);
            CHECK.sent("3.: probe " + k, x, 3, 2, 'a', 'b', 1, 1, 0, 1);
        }
        x.go(249);
        CHECK.same("3.: it probes still", x.look(0, 4), 2);
        x.go(1);
        CHECK.same("3.: it holds", x.look(0, 4), 3);
        int[] told = Check.answer(Check.recordOfName(1, 120000, "ab", 257));
        CHECK.sent("3.: it tells", x, told);
        x.go(999);
        CHECK.same("3.: once", x.count(9), 1);
        x.go(1);
        CHECK.same("3.: twice", x.count(9), 2);
        CHECK.sent("3.: again", x, told);
        x.go(20000);
        CHECK.same("3.: nothing more", x.count(9), 2);
    }

    /** 13 * 250 modulo 250 is 0: the first probe is due at once, but behind the ATELL. */
    private static void wishComesLater() {
        CableNames x = new CableNames();
        x.on(0, 250);
        Check.claim(x, 0, "n");
        x.go(749);
        CHECK.same("3.: it waits", x.look(0, 4), 1);
        x.go(1);
        CHECK.same("3.: one probe in the same millisecond", x.count(7), 1);
        CHECK.same("3.: behind the ATELL", x.sent(0), 3);

        CableNames y = holding();
        Check.claim(y, 0, "n");
        CHECK.same("6: it probes at once", y.look(0, 4), 2);
        y.go(12);
        CHECK.same("6: due 13 later", y.count(7), 0);
        y.go(1);
        CHECK.same("6: due", y.count(7), 1);
    }

    private static void probesMeetProbes() {
        CableNames x = holding();
        Check.claim(x, 0, "Lamp");
        x.go(300);
        CHECK.same("3.: two probes", x.count(7), 2);
        Check.give(x, 0, nprobe("Lamp", 257, 9));
        Check.give(x, 0, nprobe("Lamp", 256, 9));
        Check.give(x, 0, nprobe("Lamb", 300, 9));
        x.go(213);
        CHECK.same("3.: the same or a lesser address, another name: nothing", x.count(7), 3);
        Check.give(x, 0, nprobe("lAMP", 258, 9));
        CHECK.same("3.: no conflict", x.look(0, 5), 0);
        CHECK.same("3.: it probes", x.look(0, 4), 2);
        x.go(999);
        CHECK.same("3.: it holds its peace for a second", x.count(7), 3);
        x.go(1);
        CHECK.same("3.: and begins anew", x.count(7), 4);
        x.go(749);
        CHECK.same("3.: at step 0", x.look(0, 4), 2);
        x.go(1);
        CHECK.same("3.: then it holds it", x.look(0, 4), 3);
        CHECK.same("3.: three probes", x.count(7), 6);
    }

    private static void holderAnswersProbe() {
        CableNames x = holding();
        Check.service(x, 0, "t", 1);
        Check.claim(x, 0, "Lamp");
        x.go(5000);
        int told = x.count(9);
        Check.give(x, 0, nprobe("lamp", 300, 9));
        CHECK.same("3.: it tells", x.count(9), told + 1);
        CHECK.sent("3.: its address alone", x, Check.answer(Check.recordOfName(1, 120000, "Lamp", 257)));
        Check.give(x, 0, nprobe("lamp", 3, 9));
        CHECK.same("3.: for a lesser address, too", x.count(9), told + 2);
        Check.give(x, 0, nprobe("lam", 3, 9));
        CHECK.same("3.: not for another name", x.count(9), told + 2);
        CHECK.same("3.: it holds its name", x.look(0, 4), 3);

        CableNames y = new CableNames();
        y.on(0, 1);
        Check.claim(y, 0, "n");
        Check.give(y, 0, nprobe("n", 300, 9));
        CHECK.same("3.: one that waits does nothing", y.count(1), 0);
        CHECK.same("3.: one that waits waits", y.look(0, 4), 1);
    }

    private static void renames() {
        CableNames x = holding();
        Check.claim(x, 0, "Ab");
        x.go(20);
        Check.give(x, 0, rival("ab", 257));
        CHECK.named("3.: its own address", x, 0, "Ab");
        Check.give(x, 0, Check.answer(Check.recordOfName(1, 0, "ab", 258)));
        CHECK.named("3.: life 0", x, 0, "Ab");
        Check.give(x, 0, Check.answer(Check.recordOfType(0, 9000, "ab", "ab", 258)));
        CHECK.named("3.: sort 2", x, 0, "Ab");
        Check.give(x, 0, rival("abc", 258));
        CHECK.named("3.: another name", x, 0, "Ab");
        CHECK.same("3.: no conflict", x.look(0, 5), 0);
        Check.give(x, 0, rival("aB", 258));
        CHECK.named("3.: renamed", x, 0, "Ab-2");
        CHECK.same("3.: a conflict", x.look(0, 5), 1);
        CHECK.same("3.: it probes", x.look(0, 4), 2);
        int probes = x.count(7);
        x.go(12);
        CHECK.same("3.: due 13 later", x.count(7), probes);
        x.go(1);
        CHECK.sent("3.: the new name", x, nprobe("Ab-2", 257, 1));
        Check.give(x, 0, rival("Ab", 258));
        CHECK.named("3.: that isn't its name any more", x, 0, "Ab-2");
        Check.give(x, 0, Check.answer(Check.recordOfName(1, 1, "z", 258)));
        CHECK.named("3.: nor that", x, 0, "Ab-2");
        Check.give(x, 0, Check.answer(Check.recordOfName(1, 1, "AB-2", 258)));
        CHECK.named("3.: from its wish again", x, 0, "Ab-3");
        Check.give(x, 0, Check.answer(Check.recordOfName(0, 9, "ab-3", 1), Check.recordOfName(0, 9, "ab-4", 1)));
        CHECK.named("3.: one record behind the other", x, 0, "Ab-5");
        CHECK.same("3.: conflicts", x.look(0, 5), 4);
    }

    private static void longNamesAreCut() {
        CableNames x = holding();
        Check.claim(x, 0, "abcdefghijklmno");
        for (int number = 2; number <= 101; number++) {
            Check.give(x, 0, rival(Check.name(x, 0), 1));
            String tail = "-" + number;
            CHECK.named("3.: number " + number, x, 0, "abcdefghijklmno".substring(0, 15 - tail.length()) + tail);
        }
        CableNames y = holding();
        Check.claim(y, 0, "abcdefghijklm");
        Check.give(y, 0, rival("abcdefghijklm", 1));
        CHECK.named("3.: it just fits", y, 0, "abcdefghijklm-2");
        CableNames z = holding();
        Check.claim(z, 0, "abcdefghijklmn");
        Check.give(z, 0, rival("abcdefghijklmn", 1));
        CHECK.named("3.: it just does not", z, 0, "abcdefghijklm-2");
    }

    private static void holderOfContestedNameProbes() {
        CableNames x = holding();
        Check.claim(x, 0, "n");
        x.go(5000);
        int probes = x.count(7);
        Check.give(x, 0, rival("n", 257));
        CHECK.same("3.: the same address", x.look(0, 4), 3);
        Check.give(x, 0, rival("N", 300));
        CHECK.same("3.: it probes", x.look(0, 4), 2);
        CHECK.named("3.: the same name", x, 0, "n");
        CHECK.same("3.: a conflict", x.look(0, 5), 1);
        x.go(12);
        CHECK.same("3.: not yet", x.count(7), probes);
        x.go(1);
        CHECK.same("3.: from step 0 on", x.count(7), probes + 1);
        x.go(750);
        CHECK.same("3.: it holds it again", x.look(0, 4), 3);
        Check.give(x, 0, Check.answer(Check.recordOfName(0, 9, "n", 1), Check.recordOfName(0, 9, "n", 2)));
        CHECK.named("3.: the second one renames", x, 0, "n-2");
    }

    private static void addressLost() {
        CableNames x = holding();
        Check.claim(x, 0, "n");
        Check.give(x, 0, rival("n", 300));
        CHECK.named("3.: renamed", x, 0, "n-2");
        x.go(5000);
        int[] told = Check.join(Check.bytes(2), Check.pair(257), Check.pair(9));
        Check.give(x, 0, told);
        CHECK.same("2.: it defends", x.look(0, 4), 3);
        Check.give(x, 0, told);
        CHECK.same("3.: it waits", x.look(0, 4), 1);
        CHECK.same("3.: no sign", x.sign(0, 0), -1);
        int answers = x.count(9);
        Check.give(x, 0, nprobe("n-2", 300, 9));
        CHECK.same("3.: it does not hold its name", x.count(9), answers);
        Check.give(x, 0, rival("n-2", 300));
        CHECK.same("3.: nothing to rename", x.look(0, 5), 2);
        // Try 1 begins now, due 48 later, and is held 600 behind that.
        x.go(647);
        CHECK.same("3.: it waits still", x.look(0, 4), 1);
        x.go(1);
        CHECK.named("3.: it probes the name it had", x, 0, "n-2");

        CableNames y = holding();
        Check.give(y, 0, told);
        Check.give(y, 0, told);
        CHECK.same("3.: no wish, nothing waits", y.look(0, 4), 0);
    }

    private static void serviceRefuses() {
        CableNames x = new CableNames();
        Check.tape(x, "t");
        CHECK.same("7: off", x.service(0, 1), -1);
        CHECK.same("7: host -1", x.service(-1, 1), -1);
        CHECK.same("7: host 8", x.service(8, 1), -1);
        x.on(0, 1);
        CHECK.same("7: port -1", x.service(0, -1), -1);
        CHECK.same("7: port 65536", x.service(0, 65536), -1);
        CHECK.same("7: the tape stays", x.end(1), 1);
        CHECK.same("7: no word", Check.service(x, 0, "t t", 1), -1);
        x.end(0);
        CHECK.same("7: an empty tape", x.service(0, 1), -1);
        CHECK.same("7: port 0", Check.service(x, 0, "t", 0), 1);
        CHECK.same("7: the tape is empty", x.end(1), -1);
        CHECK.same("7: port 65535", Check.service(x, 0, "t", 65535), 2);
        CHECK.same("7: the same again", Check.service(x, 0, "t", 65535), 3);
        CHECK.same("7: four", Check.service(x, 0, "u", 1), 4);
        CHECK.same("7: five", Check.service(x, 0, "v", 1), -1);
        CHECK.same("7: look", x.look(0, 6), 4);
        x.go(20000);
        CHECK.same("7: without a name no record", x.count(9), 0);
    }

    private static void recordsAreTold() {
        CableNames x = holding();
        Check.claim(x, 0, "Box");
        Check.service(x, 0, "lamp", 1);
        Check.service(x, 0, "LAMP", 258);
        Check.service(x, 0, "lamp", 3);
        x.go(763);
        int[] due = Check.join(Check.bytes(5, 4),
            Check.recordOfName(1, 120000, "Box", 257),
            Check.bytes(2, 0), Check.four(120000), Check.word("lamp"), Check.bytes(128 + 8, 0, 1),
            Check.bytes(2, 0), Check.four(120000), Check.word("LAMP"), Check.bytes(128 + 8, 1, 2),
            Check.bytes(2, 0), Check.four(120000), Check.bytes(128 + 20, 128 + 8, 0, 3));
        CHECK.sent("4.: all in one packet, words written once", x, due);
        CHECK.same("20: bytes of it", x.count(2), 5 * 5 + 3 * 9 + due.length);
        int answers = x.count(9);
        Check.service(x, 0, "u", 9);
        x.go(999);
        CHECK.same("7: it is not told by this", x.count(9), answers);
        x.go(1);
        CHECK.same("3.: with the next telling it is", x.sent(1), 5);

        CableNames y = holding();
        Check.claim(y, 0, "t");
        Check.service(y, 0, "t", 7);
        y.go(763);
        CHECK.sent("6.: a type and a name may be one word", y, 5, 2, 1, 1, 0, 1, 212, 192, 1, 't', 1, 1,
            2, 0, 0, 1, 212, 192, 136, 136, 0, 7);
    }

    /** Ids 2 and 4 hold 514 and 1028; both want n: the lesser address yields, then renames. */
    private static void twoHostsWithOneName() {
        CableNames x = new CableNames();
        x.on(0, 2);
        x.on(1, 4);
        x.go(5000);
        Check.claim(x, 0, "n");
        Check.claim(x, 1, "N");
        x.go(51);
        CHECK.same("3.: one probe", x.count(7), 1);
        x.go(1);
        CHECK.same("3.: another", x.count(7), 2);
        // At 26 the first one probed; at 52 it hears the other one, and is due at 1052.
        x.go(750);
        CHECK.same("3.: the greater address holds it", x.look(1, 4), 3);
        CHECK.named("3.: the one that probes hears its record", x, 0, "n-2");
        CHECK.same("3.: a conflict", x.look(0, 5), 1);
        CHECK.same("3.: none of the other", x.look(1, 5), 0);
        x.go(5000);
        CHECK.same("3.: both hold one", x.look(0, 4), 3);
    }

    private static void signs() {
        CableNames x = holding();
        CHECK.same("16: no wish", x.sign(0, 0), -1);
        Check.claim(x, 0, "aB-9");
        CHECK.same("16: 0", x.sign(0, 0), 'a');
        CHECK.same("16: 1", x.sign(0, 1), 'B');
        CHECK.same("16: 3", x.sign(0, 3), '9');
        CHECK.same("16: 4", x.sign(0, 4), -1);
        CHECK.same("16: -1", x.sign(0, -1), -1);
        CHECK.same("16: far", x.sign(0, Integer.MAX_VALUE), -1);
        CHECK.same("16: host -1", x.sign(-1, 0), -1);
        CHECK.same("16: host 8", x.sign(8, 0), -1);
        CHECK.same("16: off", x.sign(1, 0), -1);
        x.go(5000);
        CHECK.same("16: held", x.sign(0, 1), 'B');
    }
}
