import java.util.ArrayList;
import java.util.List;

/**
 * The document written a second time, slowly and plainly: every millisecond is gone through, words are Strings,
 * packets are lists. RandomRunsTest compares the class with it.
 */
final class PlainCable {
    static final class Rec {
        int sort;
        int unique;
        long life;
        String word;
        String name = "";
        int value;
        long begin;
        long end;
        boolean dying;
        final boolean[] done = new boolean[4];

        boolean about(int s, String w) {
            return sort == s && word.equalsIgnoreCase(w);
        }

        boolean sameAs(Rec o) {
            return about(o.sort, o.word) && value == o.value && name.equalsIgnoreCase(o.name);
        }
    }

    static final class Quest {
        int sort;
        String word;
        long due;
        int asked = 0;

        long step() {
            return Math.min(64000L, 1000L << Math.min(asked, 10));
        }
    }

    static final class Rep {
        String word;
        long due;
    }

    static final class H {
        int id;
        int tries = 0;
        int astep = 0;
        Long adue;
        Long defended = null;
        String wish = null;
        String name = null;
        int number = 1;
        int nstep = 0;
        Long ndue = null;
        boolean nprobing = false;
        boolean nholding = false;
        int conflicts = 0;
        int saved = 0;
        int unread = 0;
        int lose = 0;
        final List<String> types = new ArrayList<>();
        final List<Integer> ports = new ArrayList<>();
        final Quest[] quests = new Quest[4];
        final List<Rep> reps = new ArrayList<>();
        final List<Rec> cache = new ArrayList<>();

        int address() {
            return (int) ((257L * id + 4093L * tries) % 65024);
        }

        boolean aholds() {
            return astep >= 4;
        }
    }

    static final class Pack {
        int sender;
        int part;
        List<Integer> bytes;
    }

    final H[] hosts = new H[8];
    final int[] part = new int[8];
    final List<Integer> tape = new ArrayList<>();
    final List<Pack> queue = new ArrayList<>();
    final int[] counts = new int[10];
    List<Integer> latest = List.of();
    int latestTime = -1;
    long time = 0;

    // ---- the face ----

    int feed(int a, int b, int c, int d, int e) {
        if (tape.size() > 180) {
            return -1;
        }
        for (int n : new int[] {a, b, c, d, e}) {
            for (int shift = 24; shift >= 0; shift -= 8) {
                tape.add(n >>> shift & 255);
            }
        }
        return tape.size();
    }

    int end(int n) {
        if (n < 0 || n > tape.size()) {
            return -1;
        }
        while (tape.size() > n) {
            tape.remove(tape.size() - 1);
        }
        return n;
    }

    boolean on(int host, int id) {
        if (host < 0 || host > 7 || id < 1 || id > 65535 || hosts[host] != null) {
            return false;
        }
        for (H h : hosts) {
            if (h != null && h.id == id) {
                return false;
            }
        }
        H h = new H();
        h.id = id;
        hosts[host] = h;
        probeAddress(h);
        return true;
    }

    boolean off(int host, boolean politely) {
        H h = get(host);
        if (h == null) {
            return false;
        }
        if (politely && h.nholding) {
            answer(host, records(h), 0);
        }
        hosts[host] = null;
        return true;
    }

    boolean claim(int host) {
        H h = get(host);
        String w = tapeWord();
        if (h == null || h.wish != null || w == null) {
            return false;
        }
        tape.clear();
        h.wish = w;
        h.name = w;
        if (h.aholds()) {
            probeName(h);
        }
        return true;
    }

    int service(int host, int port) {
        H h = get(host);
        String w = tapeWord();
        if (h == null || port < 0 || port > 65535 || w == null || h.types.size() == 4) {
            return -1;
        }
        tape.clear();
        h.types.add(w);
        h.ports.add(port);
        return h.types.size();
    }

    int ask(int host, int sort) {
        H h = get(host);
        String w = tapeWord();
        if (h == null || sort < 1 || sort > 2 || w == null) {
            return -1;
        }
        for (int k = 0; k < 4; k++) {
            if (h.quests[k] == null) {
                tape.clear();
                Quest q = new Quest();
                q.sort = sort;
                q.word = w;
                q.due = time + 20 + (11 * h.id) % 100;
                h.quests[k] = q;
                return k;
            }
        }
        return -1;
    }

    boolean close(int host, int question) {
        H h = get(host);
        if (h == null || question < 0 || question > 3 || h.quests[question] == null) {
            return false;
        }
        h.quests[question] = null;
        return true;
    }

    int go(int n) {
        if (n < 0 || n > 20000) {
            return -1;
        }
        millisecond();
        for (int k = 0; k < n; k++) {
            time++;
            millisecond();
        }
        return (int) time;
    }

    void split(int mask) {
        for (int k = 0; k < 8; k++) {
            part[k] = mask >>> k & 1;
        }
    }

    void join() {
        for (int k = 0; k < 8; k++) {
            part[k] = 0;
            H h = hosts[k];
            if (h == null) {
                continue;
            }
            if (h.aholds()) {
                h.astep = 4;
                h.adue = time + 31 * h.id % 200;
            }
            if (h.nholding) {
                h.nstep = 4;
                h.ndue = time + 13 * h.id % 250;
            }
        }
    }

    boolean lose(int host, int n) {
        H h = get(host);
        if (h == null || n < 0 || n > 1000) {
            return false;
        }
        h.lose = n;
        return true;
    }

    int give(int host) {
        H h = get(host);
        if (h == null) {
            return -1;
        }
        List<Integer> bytes = new ArrayList<>(tape);
        tape.clear();
        return take(host, bytes) ? 0 : 1;
    }

    int look(int host, int what) {
        if (host < 0 || host > 7) {
            throw new IndexOutOfBoundsException();
        }
        if (what < 0 || what > 11) {
            throw new java.util.NoSuchElementException();
        }
        H h = hosts[host];
        if (what == 9) {
            return part[host];
        }
        if (h == null) {
            return what == 2 ? -1 : 0;
        }
        int open = 0;
        for (Quest q : h.quests) {
            open += q == null ? 0 : 1;
        }
        int state = h.wish == null ? 0 : h.nholding ? 3 : h.nprobing ? 2 : 1;
        int[] all = {1, h.id, h.aholds() ? h.address() : -1, h.tries, state, h.conflicts, h.types.size(), open,
            h.cache.size(), 0, h.saved, h.unread};
        return all[what];
    }

    int sign(int host, int k) {
        H h = get(host);
        if (h == null || !(h.nprobing || h.nholding) || k < 0 || k >= h.name.length()) {
            return -1;
        }
        return h.name.charAt(k);
    }

    private List<Rec> foundOf(int host, int question) {
        H h = get(host);
        if (h == null || question < 0 || question > 3 || h.quests[question] == null) {
            return null;
        }
        List<Rec> all = new ArrayList<>();
        for (Rec r : h.cache) {
            if (r.about(h.quests[question].sort, h.quests[question].word)) {
                all.add(r);
            }
        }
        return all;
    }

    int answers(int host, int question) {
        List<Rec> all = foundOf(host, question);
        return all == null ? -1 : all.size();
    }

    int found(int host, int question, int k, int what) {
        List<Rec> all = foundOf(host, question);
        if (all == null || k < 0 || k >= all.size() || what < 0 || what > 2) {
            return -1;
        }
        Rec r = all.get(k);
        return what == 0 ? r.value : what == 1 ? (int) (r.end - time) : r.name.length();
    }

    int entry(int host, int k, int what) {
        H h = get(host);
        if (h == null || k < 0 || k >= h.cache.size() || what < 0 || what > 6) {
            return -1;
        }
        Rec r = h.cache.get(k);
        long[] all = {r.sort, r.value, r.life, r.begin, r.word.length(), r.dying ? 1 : 0, r.end - time};
        return (int) all[what];
    }

    int count(int what) {
        return what == 0 ? (int) time : what == 10 ? latestTime : what < 0 || what > 10 ? -1 : counts[what];
    }

    int holders(int address) {
        int n = 0;
        for (H h : hosts) {
            n += h != null && h.aholds() && h.address() == address ? 1 : 0;
        }
        return n;
    }

    int sent(int i) {
        return i < 0 || i >= latest.size() ? -1 : latest.get(i);
    }

    // ---- inside ----

    private H get(int host) {
        return host < 0 || host > 7 ? null : hosts[host];
    }

    private static String wordOf(List<Integer> bytes) {
        StringBuilder text = new StringBuilder();
        for (int b : bytes) {
            text.append((char) b);
        }
        return text.toString().matches("[A-Za-z0-9-]{1,15}") ? text.toString() : null;
    }

    private String tapeWord() {
        return wordOf(tape);
    }

    private void probeAddress(H h) {
        h.astep = 0;
        h.adue = time + (31L * h.id + 17L * h.tries) % 200;
    }

    private void probeName(H h) {
        h.nholding = false;
        h.nprobing = true;
        h.nstep = 0;
        h.ndue = time + 13L * h.id % 250;
    }

    private void moveOn(H h) {
        h.tries++;
        h.conflicts++;
        h.nprobing = false;
        h.nholding = false;
        h.ndue = null;
        probeAddress(h);
    }

    private void send(int host, List<Integer> bytes) {
        Pack p = new Pack();
        p.sender = host;
        p.part = part[host];
        p.bytes = bytes;
        queue.add(p);
        latest = bytes;
        latestTime = (int) time;
        counts[1]++;
        counts[2] += bytes.size();
        counts[4 + bytes.get(0)]++;
    }

    private static void two(List<Integer> b, int value) {
        b.add(value / 256);
        b.add(value % 256);
    }

    /** Words that were written by their signs stand at their places in the list. */
    private static void putWord(List<Integer> b, List<String> words, String w) {
        while (words.size() < b.size()) {
            words.add(null);
        }
        int at = words.indexOf(w);
        if (at >= 0 && at < 128) {
            b.add(128 + at);
            return;
        }
        words.add(w);
        b.add(w.length());
        for (char c : w.toCharArray()) {
            b.add((int) c);
        }
    }

    private void claimPacket(int host, int kind) {
        List<Integer> b = new ArrayList<>();
        b.add(kind);
        if (kind == 3) {
            putWord(b, new ArrayList<>(), hosts[host].name);
        }
        two(b, hosts[host].address());
        two(b, hosts[host].id);
        send(host, b);
    }

    private List<Rec> records(H h) {
        List<Rec> all = new ArrayList<>();
        if (!h.nholding) {
            return all;
        }
        Rec own = new Rec();
        own.sort = 1;
        own.unique = 1;
        own.word = h.name;
        own.value = h.address();
        all.add(own);
        for (int k = 0; k < h.types.size(); k++) {
            Rec r = new Rec();
            r.sort = 2;
            r.word = h.types.get(k);
            r.name = h.name;
            r.value = h.ports.get(k);
            all.add(r);
        }
        return all;
    }

    private void answer(int host, List<Rec> records, long life) {
        if (records.isEmpty()) {
            return;
        }
        List<Integer> b = new ArrayList<>();
        List<String> words = new ArrayList<>();
        b.add(5);
        b.add(records.size());
        for (Rec r : records) {
            b.add(r.sort);
            b.add(r.unique);
            two(b, (int) (life / 65536));
            two(b, (int) (life % 65536));
            putWord(b, words, r.word);
            if (r.sort == 2) {
                putWord(b, words, r.name);
            }
            two(b, r.value);
        }
        send(host, b);
    }

    private void askPacket(int host, int sort, String word, List<Rec> known) {
        List<Integer> b = new ArrayList<>();
        List<String> words = new ArrayList<>();
        b.add(4);
        b.add(sort);
        putWord(b, words, word);
        b.add(known.size());
        for (Rec r : known) {
            if (sort == 2) {
                putWord(b, words, r.name);
            }
            two(b, r.value);
        }
        send(host, b);
    }

    private void millisecond() {
        do {
            while (!queue.isEmpty()) {
                Pack p = queue.remove(0);
                for (int k = 0; k < 8; k++) {
                    if (k == p.sender || hosts[k] == null || part[k] != p.part) {
                        continue;
                    }
                    if (hosts[k].lose > 0) {
                        hosts[k].lose--;
                        counts[4]++;
                    } else {
                        counts[3]++;
                        take(k, p.bytes);
                    }
                }
            }
        } while (action());
    }

    private boolean action() {
        for (int k = 0; k < 8; k++) {
            if (hosts[k] != null && actionOf(k, hosts[k])) {
                return true;
            }
        }
        return false;
    }

    private boolean actionOf(int k, H h) {
        if (h.adue != null && h.adue <= time) {
            int step = h.astep++;
            h.adue = step < 3 ? Long.valueOf(time + 200) : step == 3 ? Long.valueOf(time + 2000) : null;
            claimPacket(k, step < 3 ? 1 : 2);
            if (step == 3 && h.wish != null) {
                probeName(h);
            }
            return true;
        }
        if (h.ndue != null && h.ndue <= time) {
            int step = h.nstep++;
            h.ndue = step < 3 ? Long.valueOf(time + 250) : step == 3 ? Long.valueOf(time + 1000) : null;
            if (step < 3) {
                claimPacket(k, 3);
            } else {
                h.nprobing = false;
                h.nholding = true;
                answer(k, records(h), 120000);
            }
            return true;
        }
        for (Quest q : h.quests) {
            if (q != null && q.due <= time) {
                List<Rec> known = new ArrayList<>();
                for (Rec r : h.cache) {
                    if (r.about(q.sort, q.word) && (r.end - time) * 2 > r.life && known.size() < 8) {
                        known.add(r);
                    }
                }
                askPacket(k, q.sort, q.word, known);
                q.due = time + q.step();
                q.asked++;
                return true;
            }
        }
        for (Rep r : h.reps) {
            if (r.due <= time) {
                h.reps.remove(r);
                List<Rec> own = records(h);
                own.removeIf(x -> !x.about(2, r.word));
                answer(k, own, 120000);
                return true;
            }
        }
        return cacheAction(k, h);
    }

    private boolean cacheAction(int k, H h) {
        for (Rec r : h.cache) {
            if (r.end <= time) {
                h.cache.remove(r);
                return true;
            }
            for (int n = 0; n < 4 && !r.dying; n++) {
                if (!r.done[n] && r.begin + r.life * (80 + 5 * n) / 100 <= time) {
                    r.done[n] = true;
                    for (Quest q : h.quests) {
                        if (q != null && r.about(q.sort, q.word)) {
                            askPacket(k, q.sort, q.word, List.of());
                            break;
                        }
                    }
                    return true;
                }
            }
        }
        return false;
    }

    // ---- reading ----

    private static final class CannotRead extends Exception {
        private static final long serialVersionUID = 1;
    }

    private static final class Cursor {
        final List<Integer> b;
        final List<Integer> places = new ArrayList<>();
        int at = 0;

        Cursor(List<Integer> b) {
            this.b = b;
        }

        int one() throws CannotRead {
            if (at >= b.size()) {
                throw new CannotRead();
            }
            return b.get(at++);
        }

        int within(int least, int most) throws CannotRead {
            int v = one();
            if (v < least || v > most) {
                throw new CannotRead();
            }
            return v;
        }

        int two() throws CannotRead {
            int high = one();
            return 256 * high + one();
        }

        int address() throws CannotRead {
            int v = two();
            if (v > 65023) {
                throw new CannotRead();
            }
            return v;
        }

        String word() throws CannotRead {
            int place = at;
            int v = one();
            if (v >= 128) {
                if (!places.contains(v - 128)) {
                    throw new CannotRead();
                }
                int length = b.get(v - 128);
                return wordOf(b.subList(v - 127, v - 127 + length));
            }
            if (v < 1 || v > 15 || at + v > b.size()) {
                throw new CannotRead();
            }
            String w = wordOf(b.subList(at, at + v));
            if (w == null) {
                throw new CannotRead();
            }
            at += v;
            places.add(place);
            return w;
        }

        void what(Rec r) throws CannotRead {
            if (r.sort == 2) {
                r.name = word();
                r.value = two();
            } else {
                r.value = address();
            }
        }
    }

    private boolean take(int host, List<Integer> bytes) {
        H h = hosts[host];
        try {
            Cursor c = new Cursor(bytes);
            int kind = c.within(1, 5);
            String word = null;
            int address = 0;
            int id = 0;
            int sort = 0;
            List<Rec> recs = new ArrayList<>();
            if (kind <= 3) {
                word = kind == 3 ? c.word() : null;
                address = c.address();
                id = c.two();
            } else if (kind == 4) {
                sort = c.within(1, 2);
                word = c.word();
                int many = c.within(0, 8);
                for (int k = 0; k < many; k++) {
                    Rec r = new Rec();
                    r.sort = sort;
                    r.word = word;
                    c.what(r);
                    recs.add(r);
                }
            } else {
                int many = c.within(1, 8);
                for (int k = 0; k < many; k++) {
                    Rec r = new Rec();
                    r.sort = c.within(1, 2);
                    r.unique = c.within(0, 1);
                    r.life = 65536L * c.two();
                    r.life += c.two();
                    if (r.life > Integer.MAX_VALUE) {
                        throw new CannotRead();
                    }
                    r.word = c.word();
                    c.what(r);
                    recs.add(r);
                }
            }
            if (c.at != bytes.size()) {
                throw new CannotRead();
            }
            if (kind <= 2) {
                heardAddress(host, h, kind, address, id);
            } else if (kind == 3) {
                heardNameProbe(host, h, word, address);
            } else if (kind == 4) {
                heardAsk(host, h, sort, word, recs);
            } else {
                for (Rec r : recs) {
                    heardRecord(h, r);
                }
            }
            return true;
        } catch (CannotRead e) {
            h.unread++;
            return false;
        }
    }

    private void heardAddress(int host, H h, int kind, int address, int id) {
        if (id == h.id || address != h.address()) {
            return;
        }
        if (kind == 1) {
            if (h.aholds()) {
                claimPacket(host, 2);
            } else if (h.id > id) {
                moveOn(h);
            }
        } else if (h.aholds() && (h.defended == null || time - h.defended >= 10000)) {
            h.defended = time;
            claimPacket(host, 2);
        } else {
            moveOn(h);
        }
    }

    private void heardNameProbe(int host, H h, String word, int address) {
        if (h.nholding && h.name.equalsIgnoreCase(word)) {
            answer(host, records(h).subList(0, 1), 120000);
        } else if (h.nprobing && h.name.equalsIgnoreCase(word) && h.address() < address) {
            h.nstep = 0;
            h.ndue = time + 1000;
        }
    }

    private void heardAsk(int host, H h, int sort, String word, List<Rec> told) {
        for (Quest q : h.quests) {
            if (q != null && q.sort == sort && q.word.equalsIgnoreCase(word) && q.due <= time + 100) {
                h.saved++;
                q.due += q.step();
                q.asked++;
            }
        }
        List<Rec> own = records(h);
        own.removeIf(x -> !x.about(sort, word) || told.stream().anyMatch(x::sameAs));
        if (own.isEmpty()) {
            return;
        }
        if (sort == 1) {
            answer(host, own, 120000);
        } else if (h.reps.size() < 4 && h.reps.stream().noneMatch(r -> r.word.equalsIgnoreCase(word))) {
            Rep r = new Rep();
            r.word = word;
            r.due = time + 20 + (7 * h.id) % 100;
            h.reps.add(r);
        }
    }

    private void heardRecord(H h, Rec r) {
        Rec there = null;
        for (Rec x : h.cache) {
            if (x.sameAs(r)) {
                there = x;
            }
        }
        if (r.life == 0) {
            if (there != null) {
                there.dying = true;
                there.end = Math.min(there.end, time + 1000);
            }
            return;
        }
        if (there == null && h.cache.size() < 24) {
            there = r;
            h.cache.add(r);
        }
        if (there != null) {
            there.begin = time;
            there.life = r.life;
            there.end = time + r.life;
            there.dying = false;
            java.util.Arrays.fill(there.done, false);
        }
        for (Rec x : h.cache) {
            if (r.unique == 1 && x != there && x.about(r.sort, r.word) && x.begin < time - 1000) {
                x.dying = true;
                x.end = Math.min(x.end, time + 1000);
            }
        }
        if (r.sort == 1 && h.name != null && h.name.equalsIgnoreCase(r.word) && r.value != h.address()
            && (h.nprobing || h.nholding)) {
            h.conflicts++;
            if (h.nprobing) {
                h.number++;
                String tail = "-" + h.number;
                h.name = h.wish.substring(0, Math.min(h.wish.length(), 15 - tail.length())) + tail;
            }
            probeName(h);
        }
    }
}
