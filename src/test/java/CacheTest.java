/** Promise 19 (entry), and caches (terms 5). */
final class CacheTest {
    private static final Check CHECK = new Check("CacheTest");

    public static void main(String[] args) {
        entryTells();
        entriesEnd();
        heardAgain();
        sameRecord();
        lifeZero();
        uniqueOutdatesOthers();
        roomForTwentyFour();
        asksAheadOfTheEnd();
        asksOfShortLives();
        dyingDoesNotAsk();
        longestLife();
        ownOrderIsKept();
        CHECK.done();
    }

    private static CableNames host() {
        CableNames x = new CableNames();
        x.on(0, 1);
        return x;
    }

    private static int[] told(int unique, int life, String name, int address) {
        return Check.answer(Check.recordOfName(unique, life, name, address));
    }

    private static void entryTells() {
        CableNames x = host();
        x.go(40);
        Check.give(x, 0, Check.answer(Check.recordOfName(1, 5000, "abc", 65023),
            Check.recordOfType(0, 6000, "type", "n", 65535)));
        x.go(100);
        int[][] due = {{1, 65023, 5000, 40, 3, 0, 4900, -1}, {2, 65535, 6000, 40, 4, 0, 5900, -1}};
        for (int k = 0; k < 2; k++) {
            for (int what = 0; what < 8; what++) {
                CHECK.same("19: entry " + k + ", " + what, x.entry(0, k, what), due[k][what]);
            }
            CHECK.same("19: what -1", x.entry(0, k, -1), -1);
        }
        CHECK.same("19: entry -1", x.entry(0, -1, 0), -1);
        CHECK.same("19: entry 2", x.entry(0, 2, 0), -1);
        CHECK.same("19: entry 24", x.entry(0, 24, 0), -1);
        CHECK.same("19: host -1", x.entry(-1, 0, 0), -1);
        CHECK.same("19: host 8", x.entry(8, 0, 0), -1);
        CHECK.same("19: off", x.entry(1, 0, 0), -1);
    }

    private static void entriesEnd() {
        CableNames x = host();
        Check.give(x, 0, told(0, 100, "a", 1));
        Check.give(x, 0, told(0, 50, "b", 2));
        Check.give(x, 0, told(0, 100, "c", 3));
        x.go(49);
        CHECK.same("5.: all there", x.look(0, 8), 3);
        CHECK.same("5.: one more millisecond", x.entry(0, 1, 6), 1);
        x.go(1);
        CHECK.same("5.: one is gone", x.look(0, 8), 2);
        CHECK.same("5.: the first one stays", x.entry(0, 0, 1), 1);
        CHECK.same("5.: the others come up", x.entry(0, 1, 1), 3);
        x.go(50);
        CHECK.same("5.: all are gone", x.look(0, 8), 0);
        Check.give(x, 0, told(0, 100, "d", 4));
        CHECK.same("5.: a place is used again", x.entry(0, 0, 1), 4);
        CHECK.same("5.: and one only", x.look(0, 8), 1);
    }

    private static void heardAgain() {
        CableNames x = host();
        Check.give(x, 0, told(0, 3000, "a", 1));
        Check.give(x, 0, told(0, 9000, "b", 1));
        Check.give(x, 0, told(0, 0, "A", 1));
        CHECK.same("5.: dying", x.entry(0, 0, 5), 1);
        x.go(500);
        Check.give(x, 0, told(0, 700, "A", 1));
        CHECK.same("5.: it is the one", x.look(0, 8), 2);
        CHECK.same("5.: at its place", x.entry(0, 0, 2), 700);
        CHECK.same("5.: it begins now", x.entry(0, 0, 3), 500);
        CHECK.same("5.: it isn't dying", x.entry(0, 0, 5), 0);
        CHECK.same("5.: its end is so much later", x.entry(0, 0, 6), 700);
        x.go(699);
        CHECK.same("5.: it is there", x.look(0, 8), 2);
        x.go(1);
        CHECK.same("5.: it is gone", x.look(0, 8), 1);
    }

    private static void sameRecord() {
        CableNames x = host();
        Check.give(x, 0, Check.answer(Check.recordOfType(0, 9000, "t", "n", 1),
            Check.recordOfType(0, 9000, "T", "N", 1)));
        CHECK.same("5.: letters are alike", x.look(0, 8), 1);
        Check.give(x, 0, Check.answer(Check.recordOfType(0, 9000, "t", "n", 2)));
        CHECK.same("5.: another port", x.look(0, 8), 2);
        CableNames y = host();
        Check.give(y, 0, Check.answer(Check.recordOfName(0, 9000, "abcdefghijklm", 1),
            Check.recordOfName(0, 9000, "ABCDEFGHIJKLM", 1), Check.recordOfName(0, 9000, "nopqrstuvwxyz", 1),
            Check.recordOfName(0, 9000, "NOPQRSTUVWXYZ", 1), Check.recordOfName(0, 9000, "0123456789-", 1),
            Check.recordOfName(0, 9000, "0123456780-", 1)));
        CHECK.same("5.: all letters, no digits", y.look(0, 8), 4);
        Check.give(x, 0, Check.answer(Check.recordOfType(0, 9000, "t", "m", 1)));
        CHECK.same("5.: another name", x.look(0, 8), 3);
        Check.give(x, 0, Check.answer(Check.recordOfType(0, 9000, "u", "n", 1)));
        CHECK.same("5.: another type", x.look(0, 8), 4);
        Check.give(x, 0, told(0, 9000, "t", 1));
        CHECK.same("5.: another sort", x.look(0, 8), 5);
        Check.give(x, 0, told(0, 9000, "t", 2));
        CHECK.same("5.: another address", x.look(0, 8), 6);
        Check.give(x, 0, Check.answer(Check.recordOfType(0, 9000, "t-", "n", 1)));
        CHECK.same("5.: a longer word", x.look(0, 8), 7);
        Check.give(x, 0, Check.answer(Check.recordOfType(0, 9000, "t", "other", 1)));
        Check.give(x, 0, told(0, 9000, "t", 1));
        CHECK.same("5.: the address is known, whatever was read ahead of it", x.look(0, 8), 8);
    }

    private static void lifeZero() {
        CableNames x = host();
        Check.give(x, 0, told(1, 0, "a", 1));
        CHECK.same("5.: one that isn't there does not come", x.look(0, 8), 0);
        Check.give(x, 0, told(0, 5000, "a", 1));
        Check.give(x, 0, told(0, 900, "b", 1));
        Check.give(x, 0, told(0, 5000, "a", 2));
        x.go(2000);
        Check.give(x, 0, told(0, 900, "b", 1));
        Check.give(x, 0, told(1, 0, "a", 1));
        Check.give(x, 0, told(1, 0, "B", 1));
        CHECK.same("5.: dying", x.entry(0, 0, 5), 1);
        CHECK.same("5.: 1000 from now", x.entry(0, 0, 6), 1000);
        CHECK.same("5.: its life is as it was told", x.entry(0, 0, 2), 5000);
        CHECK.same("5.: its beginning, too", x.entry(0, 0, 3), 0);
        CHECK.same("5.: another one of its name is not", x.entry(0, 1, 5), 0);
        CHECK.same("5.: b is dying", x.entry(0, 2, 5), 1);
        CHECK.same("5.: its end was ahead of that", x.entry(0, 2, 6), 900);
        x.go(500);
        Check.give(x, 0, told(0, 0, "a", 1));
        CHECK.same("5.: told again, its end is the same", x.entry(0, 0, 6), 500);
        x.go(500);
        CHECK.same("5.: one is left", x.look(0, 8), 1);
        CHECK.same("5.: that one", x.entry(0, 0, 1), 2);
    }

    private static void uniqueOutdatesOthers() {
        for (int age = 999; age <= 1001; age++) {
            CableNames x = host();
            Check.give(x, 0, Check.answer(Check.recordOfName(0, 90000, "a", 1), Check.recordOfName(0, 90000, "b", 2),
                Check.recordOfType(0, 90000, "a", "n", 3), Check.recordOfName(0, 90000, "a", 4)));
            x.go(age);
            Check.give(x, 0, told(0, 90000, "A", 5));
            CHECK.same("5.: not told unique", x.entry(0, 0, 5), 0);
            Check.give(x, 0, told(1, 0, "A", 5));
            CHECK.same("5.: told unique with life 0", x.entry(0, 0, 5), 0);
            Check.give(x, 0, told(1, 90000, "A", 4));
            int dying = age > 1000 ? 1 : 0;
            CHECK.same("5.: of its name, of age " + age, x.entry(0, 0, 5), dying);
            CHECK.same("5.: its end at age " + age, x.entry(0, 0, 6), dying == 1 ? 1000 : 90000 - age);
            CHECK.same("5.: of another name", x.entry(0, 1, 5), 0);
            CHECK.same("5.: of another sort", x.entry(0, 2, 5), 0);
            CHECK.same("5.: the one itself", x.entry(0, 3, 5), 0);
            CHECK.same("5.: one that came just now, dying by life 0", x.entry(0, 4, 5), 1);
        }
        CableNames y = host();
        Check.give(y, 0, Check.answer(Check.recordOfType(0, 90000, "a", "n", 3)));
        y.go(1001);
        Check.give(y, 0, Check.answer(Check.recordOfType(1, 90000, "a", "n", 4)));
        CHECK.same("5.: sort 2 likewise", y.entry(0, 0, 5), 1);
    }

    private static void roomForTwentyFour() {
        CableNames x = host();
        for (int k = 0; k < 24; k++) {
            Check.give(x, 0, told(0, 90000, "a", k));
            CHECK.same("5.: room", x.look(0, 8), k + 1);
        }
        x.go(2000);
        Check.give(x, 0, told(0, 90000, "a", 24));
        CHECK.same("5.: no room", x.look(0, 8), 24);
        CHECK.same("5.: the last one is as it was", x.entry(0, 23, 1), 23);
        Check.give(x, 0, told(0, 50000, "a", 23));
        CHECK.same("5.: one that is there begins now", x.entry(0, 23, 3), 2000);
        CHECK.same("5.: the others aren't dying", x.entry(0, 0, 5), 0);
        Check.give(x, 0, told(1, 90000, "a", 24));
        CHECK.same("5.: without room, unique outdates others still", x.entry(0, 0, 5), 1);
        CHECK.same("5.: those that began ahead", x.entry(0, 22, 5), 1);
        CHECK.same("5.: not a young one", x.entry(0, 23, 5), 0);
        x.go(1000);
        CHECK.same("5.: one is left", x.look(0, 8), 1);
    }

    /** Lives of 1003: 80, 85, 90, 95 hundredths, cut, are 802, 852, 902, 952. */
    private static void asksAheadOfTheEnd() {
        CableNames x = host();
        Check.ask(x, 0, 1, "Word");
        x.go(5000);
        int asks = x.count(8);
        Check.give(x, 0, Check.answer(Check.recordOfName(0, 1003, "wORD", 1), Check.recordOfName(0, 1003, "other", 1),
            Check.recordOfType(0, 1003, "word", "n", 1)));
        int[] times = {802, 852, 902, 952};
        for (int k = 0; k < 4; k++) {
            x.go(5000 + times[k] - 1 - x.count(0));
            CHECK.same("5.: asks ahead of " + times[k], x.count(8), asks + k);
            x.go(1);
            CHECK.same("5.: asks at " + times[k], x.count(8), asks + k + 1);
            CHECK.sent("5.: without records, as the question has it", x, 4, 1, 4, 'W', 'o', 'r', 'd', 0);
        }
        x.go(51);
        CHECK.same("5.: it ended", x.look(0, 8), 0);
        CHECK.same("5.: no more asks", x.count(8), asks + 4);
        // The question was due at 31, 1031, 3031, and stays due at 7031.
        x.go(7030 - x.count(0));
        CHECK.same("5.: nothing else of the question changes", x.count(8), asks + 4);
        x.go(1);
        CHECK.same("5.: it asks when it was due", x.count(8), asks + 5);

        CableNames y = host();
        Check.give(y, 0, told(0, 1000, "w", 1));
        y.go(810);
        Check.ask(y, 0, 1, "w");
        CHECK.same("5.: no question was open", y.count(8), 0);
        y.go(30);
        CHECK.same("5.: what is past is past", y.count(8), 0);
        y.go(10);
        CHECK.same("5.: at 841 the question, at 850 the entry", y.count(8), 2);
        Check.give(y, 0, told(0, 1000, "w", 1));
        y.go(799);
        CHECK.same("5.: heard again, it begins anew", y.count(8), 2);
        y.go(1);
        CHECK.same("5.: at 80 hundredths", y.count(8), 3);
    }

    /** A life of 7: at 5 (5.6), 5 (5.95), 6 (6.3), 6 (6.65). A life of 1: four times at once. */
    private static void asksOfShortLives() {
        CableNames x = host();
        Check.ask(x, 0, 1, "w");
        x.go(5000);
        int asks = x.count(8);
        Check.give(x, 0, told(0, 7, "w", 1));
        x.go(4);
        CHECK.same("5.: none at 4", x.count(8), asks);
        x.go(1);
        CHECK.same("5.: two at 5", x.count(8), asks + 2);
        x.go(1);
        CHECK.same("5.: two at 6", x.count(8), asks + 4);
        x.go(1);
        CHECK.same("5.: gone at 7", x.look(0, 8), 0);
        Check.give(x, 0, told(0, 1, "w", 1));
        x.go(0);
        CHECK.same("5.: four at once", x.count(8), asks + 8);
        CHECK.same("5.: it is there", x.look(0, 8), 1);
        x.go(1);
        CHECK.same("5.: it is gone", x.look(0, 8), 0);
        CHECK.same("5.: no more", x.count(8), asks + 8);
    }

    private static void dyingDoesNotAsk() {
        CableNames x = host();
        Check.ask(x, 0, 1, "w");
        x.go(3500);
        int asks = x.count(8);
        Check.give(x, 0, told(0, 1000, "w", 1));
        x.go(100);
        Check.give(x, 0, told(0, 0, "w", 1));
        x.go(899);
        CHECK.same("5.: dying, it does not ask", x.count(8), asks);
        CHECK.same("5.: its end was ahead", x.look(0, 8), 1);
        x.go(1);
        CHECK.same("5.: its end", x.look(0, 8), 0);
    }

    private static void longestLife() {
        CableNames x = host();
        x.go(20000);
        Check.give(x, 0, told(0, Integer.MAX_VALUE, "w", 1));
        CHECK.same("5.: life", x.entry(0, 0, 2), Integer.MAX_VALUE);
        CHECK.same("5.: its end", x.entry(0, 0, 6), Integer.MAX_VALUE);
        Check.ask(x, 0, 1, "w");
        x.go(31);
        CHECK.sent("4.: it is known", x, 4, 1, 1, 'w', 1, 0, 1);
        x.go(20000);
        CHECK.same("5.: it lives", x.entry(0, 0, 6), Integer.MAX_VALUE - 20031);
    }

    /** Two entries are due in the same millisecond: the first one acts first. */
    private static void ownOrderIsKept() {
        CableNames x = host();
        Check.ask(x, 0, 1, "a");
        Check.ask(x, 0, 1, "b");
        x.go(3500);
        Check.give(x, 0, Check.answer(Check.recordOfName(0, 100, "b", 1), Check.recordOfName(0, 100, "a", 1)));
        x.go(80);
        CHECK.sent("5.: the last one to act", x, 4, 1, 1, 'a', 0);
    }
}
