import java.util.NoSuchElementException;

/** A cable of eight hosts that find addresses, names and services without a server (../shared/DOC.md). */
public final class CableNames {
    public static final int NONE = -1;

    private static final int HOSTS = 8;
    private static final int MOST_ID = 65535;
    private static final int MOST_PORT = 65535;
    private static final int ADDRESSES = 65024;
    private static final int MOST_OPEN = 4;
    private static final int MOST_TOLD = 8;
    private static final int MOST_MILLISECONDS = 20000;
    private static final int MOST_TO_LOSE = 1000;
    private static final int LIFE = 120000;
    private static final int GRACE = 1000;
    private static final int DEFENCE = 10000;

    /* Far above what 512 calls can bring to the queue, or one call of go can do. */
    private static final int MOST_QUEUED = 1024;
    private static final int MOST_TURNS = 1000000;

    /* Later than any time that a run can come to. */
    private static final long NEVER = 1L << 62;

    private static final int OF_NAME = 1;
    private static final int OF_TYPE = 2;

    private static final int APROBE = 1;
    private static final int ATELL = 2;
    private static final int NPROBE = 3;
    private static final int ASK = 4;
    private static final int ANSWER = 5;

    private static final int NO_WISH = 0;
    private static final int WAITS = 1;
    private static final int PROBES = 2;
    private static final int HOLDS = 3;

    private static final int TELL_STEP = 3;
    private static final int TELL_AGAIN_STEP = 4;

    private static final int SENT = 1;
    private static final int SENT_BYTES = 2;
    private static final int HEARD = 3;
    private static final int LOST = 4;
    private static final int COUNTS = 10;

    private final Host[] hosts = new Host[HOSTS];
    private final Packet tape = new Packet();
    private final Reader reader = new Reader();
    private final int[] counts = new int[COUNTS];
    /* One place more than the queue may fill: what comes beyond its limit is written there and let go. */
    private final Packet[] queue = new Packet[MOST_QUEUED + 1];
    private int head = 0;
    private int tail = 0;
    private Packet latest = null;
    private long latestTime = NONE;
    private long time = 0;

    public CableNames() {
        for (int k = 0; k < HOSTS; k++) {
            hosts[k] = new Host(k);
        }
    }

    // ---- the tape ----

    public int feed(int a, int b, int c, int d, int e) {
        if (tape.size + 20 > Packet.MOST) {
            return NONE;
        }
        tape.putNumber(a, 4);
        tape.putNumber(b, 4);
        tape.putNumber(c, 4);
        tape.putNumber(d, 4);
        tape.putNumber(e, 4);
        return tape.size;
    }

    public int end(int n) {
        if (n < 0 || n > tape.size) {
            return NONE;
        }
        tape.size = n;
        return n;
    }

    private boolean tapeIsWord() {
        if (tape.size < 1 || tape.size > Word.MOST) {
            return false;
        }
        for (int k = 0; k < tape.size; k++) {
            if (!Word.isSign(tape.at(k))) {
                return false;
            }
        }
        return true;
    }

    private void moveTapeTo(Word word) {
        word.clear();
        for (int k = 0; k < tape.size; k++) {
            word.add(tape.at(k));
        }
        tape.size = 0;
    }

    // ---- what is told to hosts ----

    public boolean on(int host, int id) {
        if (host < 0 || host >= HOSTS || id < 1 || id > MOST_ID || hosts[host].isOn) {
            return false;
        }
        for (int k = 0; k < HOSTS; k++) {
            if (hosts[k].isOn && hosts[k].id == id) {
                return false;
            }
        }
        hosts[host].start(id, time);
        return true;
    }

    public boolean off(int host, boolean politely) {
        Host leaving = hostThatIsOn(host);
        if (leaving == null) {
            return false;
        }
        if (politely && leaving.name.state == HOLDS) {
            tellAll(leaving, 0);
        }
        leaving.isOn = false;
        return true;
    }

    public boolean claim(int host) {
        Host claiming = hostThatIsOn(host);
        if (claiming == null || claiming.name.state != NO_WISH || !tapeIsWord()) {
            return false;
        }
        NameClaim claimed = claiming.name;
        moveTapeTo(claimed.wish);
        claimed.name.copy(claimed.wish);
        claimed.pause();
        if (claiming.address.isHeld()) {
            claimed.probe(claiming.id, time);
        }
        return true;
    }

    public int service(int host, int port) {
        Host serving = hostThatIsOn(host);
        if (serving == null || port < 0 || port > MOST_PORT || !tapeIsWord()) {
            return NONE;
        }
        if (serving.serviceCount >= MOST_OPEN) {
            return NONE;
        }
        Service added = serving.services[serving.serviceCount];
        serving.serviceCount++;
        moveTapeTo(added.type);
        added.port = port;
        return serving.serviceCount;
    }

    public int ask(int host, int sort) {
        Host asking = hostThatIsOn(host);
        if (asking == null || (sort != OF_NAME && sort != OF_TYPE) || !tapeIsWord()) {
            return NONE;
        }
        for (int k = 0; k < MOST_OPEN; k++) {
            Question question = asking.questions[k];
            if (!question.isOpen) {
                moveTapeTo(question.word);
                question.start(sort, asking.id, time);
                return k;
            }
        }
        return NONE;
    }

    public boolean close(int host, int question) {
        Question closed = openQuestion(host, question);
        if (closed == null) {
            return false;
        }
        closed.isOpen = false;
        return true;
    }

    public boolean lose(int host, int n) {
        Host losing = hostThatIsOn(host);
        if (losing == null || n < 0 || n > MOST_TO_LOSE) {
            return false;
        }
        losing.toLose = n;
        return true;
    }

    public int give(int host) {
        Host taking = hostThatIsOn(host);
        if (taking == null) {
            return NONE;
        }
        boolean readable = reader.reads(tape);
        tape.size = 0;
        hear(taking, readable);
        return readable ? 0 : 1;
    }

    private Host hostThatIsOn(int host) {
        if (host < 0 || host >= HOSTS || !hosts[host].isOn) {
            return null;
        }
        return hosts[host];
    }

    private Question openQuestion(int host, int question) {
        Host asking = hostThatIsOn(host);
        if (asking == null || question < 0 || question >= MOST_OPEN) {
            return null;
        }
        Question wanted = asking.questions[question];
        return wanted.isOpen ? wanted : null;
    }

    // ---- time and the cable ----

    public int go(int milliseconds) {
        if (milliseconds < 0 || milliseconds > MOST_MILLISECONDS) {
            return NONE;
        }
        long target = time + milliseconds;
        for (int turn = 0; turn < MOST_TURNS; turn++) {
            if (head < tail) {
                deliverFirst();
            } else if (!actFirst()) {
                // Nothing can happen ahead of the next action, so the quiet milliseconds are leapt over.
                long next = nextDue();
                if (next > target) {
                    break;
                }
                time = next;
            }
        }
        time = target;
        return (int) time;
    }

    public void split(int mask) {
        for (int k = 0; k < HOSTS; k++) {
            hosts[k].part = (mask >> k) & 1;
        }
    }

    public void join() {
        for (int k = 0; k < HOSTS; k++) {
            Host host = hosts[k];
            host.part = 0;
            if (host.isOn && host.address.isHeld()) {
                host.address.tellAgain(host.id, time);
            }
            if (host.isOn && host.name.state == HOLDS) {
                host.name.tellAgain(host.id, time);
            }
        }
    }

    private void deliverFirst() {
        Packet packet = queue[head];
        head++;
        if (packet == null) {
            return;
        }
        // Kept aside: what the hosts send at once may be written over this packet.
        int sender = packet.sender;
        int part = packet.part;
        boolean readable = reader.reads(packet);
        for (int k = 0; k < HOSTS; k++) {
            Host host = hosts[k];
            if (k == sender || !host.isOn || host.part != part) {
                continue;
            }
            if (host.toLose > 0) {
                host.toLose--;
                counts[LOST]++;
            } else {
                counts[HEARD]++;
                hear(host, readable);
            }
        }
    }

    private long nextDue() {
        long next = NEVER;
        for (int k = 0; k < HOSTS; k++) {
            if (hosts[k].isOn) {
                next = Math.min(next, hosts[k].nextDue());
            }
        }
        return next;
    }

    // ---- actions ----

    private boolean actFirst() {
        for (int k = 0; k < HOSTS; k++) {
            if (hosts[k].isOn && act(hosts[k])) {
                return true;
            }
        }
        return false;
    }

    private boolean act(Host host) {
        if (host.address.due <= time) {
            actAddress(host);
            return true;
        }
        if (host.name.due <= time) {
            actName(host);
            return true;
        }
        for (int k = 0; k < MOST_OPEN; k++) {
            Question question = host.questions[k];
            if (question.isOpen && question.due <= time) {
                sendAsk(host, question, true);
                question.putOff(time);
                return true;
            }
        }
        for (int k = 0; k < host.replyCount; k++) {
            if (host.replies[k].due <= time) {
                tellType(host, host.replies[k].type);
                host.removeReply(k);
                return true;
            }
        }
        for (int k = 0; k < host.cache.size; k++) {
            if (host.cache.entries[k].due <= time) {
                actEntry(host, k);
                return true;
            }
        }
        return false;
    }

    private void actAddress(Host host) {
        int step = host.address.step;
        sendAddress(host, step < TELL_STEP ? APROBE : ATELL);
        host.address.advance(time);
        if (step == TELL_STEP && host.name.state != NO_WISH) {
            host.name.probe(host.id, time);
        }
    }

    private void actName(Host host) {
        if (host.name.step < TELL_STEP) {
            sendNameProbe(host);
        } else {
            tellAll(host, LIFE);
        }
        host.name.advance(time);
    }

    private void actEntry(Host host, int k) {
        Cache cache = host.cache;
        Entry due = cache.entries[k];
        if (due.ends <= time) {
            cache.remove(k);
            return;
        }
        due.countRefresh();
        Question question = host.questionOf(due.sort, due.word);
        if (question != null) {
            sendAsk(host, question, false);
        }
    }

    // ---- what hosts do with a packet ----

    private void hear(Host host, boolean readable) {
        if (!readable) {
            host.unreadable++;
            return;
        }
        switch (reader.kind) {
            case APROBE:
                hearAddressProbe(host);
                break;
            case ATELL:
                hearAddressTold(host);
                break;
            case NPROBE:
                hearNameProbe(host);
                break;
            case ASK:
                hearAsk(host);
                break;
            default:
                hearAnswer(host);
                break;
        }
    }

    private void hearAddressProbe(Host host) {
        if (reader.id == host.id || reader.address != host.address.address) {
            return;
        }
        if (host.address.isHeld()) {
            sendAddress(host, ATELL);
        } else if (host.id > reader.id) {
            host.moveOn(time);
        }
    }

    private void hearAddressTold(Host host) {
        if (reader.id == host.id || reader.address != host.address.address) {
            return;
        }
        if (host.address.isHeld() && host.address.mayDefend(time)) {
            host.address.defended = time;
            sendAddress(host, ATELL);
        } else {
            host.moveOn(time);
        }
    }

    private void hearNameProbe(Host host) {
        NameClaim claimed = host.name;
        if (!claimed.isOf(reader.word)) {
            return;
        }
        if (claimed.state == HOLDS) {
            tellAddress(host);
        } else if (host.address.address < reader.address) {
            claimed.restart(time);
        }
    }

    private void hearAnswer(Host host) {
        for (int k = 0; k < reader.toldCount; k++) {
            Told told = reader.told[k];
            host.cache.hear(told, time);
            if (told.sort == OF_NAME && told.life > 0 && told.value != host.address.address) {
                hearOfRival(host, told.word);
            }
        }
    }

    private void hearOfRival(Host host, Word rivalName) {
        NameClaim claimed = host.name;
        if (!claimed.isOf(rivalName)) {
            return;
        }
        host.conflicts++;
        if (claimed.state == PROBES) {
            claimed.rename();
        }
        claimed.probe(host.id, time);
    }

    private void hearAsk(Host host) {
        for (int k = 0; k < MOST_OPEN; k++) {
            Question question = host.questions[k];
            if (question.isOf(reader.sort, reader.word) && question.isNear(time)) {
                host.saved++;
                question.putOff(question.due);
            }
        }
        if (host.name.state != HOLDS) {
            return;
        }
        if (reader.sort == OF_TYPE) {
            planReply(host);
        } else if (host.name.isOf(reader.word) && !reader.tellsAddress(host.address.address)) {
            tellAddress(host);
        }
    }

    private void planReply(Host host) {
        if (host.replyCount >= MOST_OPEN || host.hasReply(reader.word) || !hasUntoldService(host)) {
            return;
        }
        Reply reply = host.replies[host.replyCount];
        host.replyCount++;
        reply.type.copy(reader.word);
        reply.due = time + 20 + 7 * host.id % 100;
    }

    private boolean hasUntoldService(Host host) {
        for (int k = 0; k < host.serviceCount; k++) {
            Service service = host.services[k];
            if (service.type.like(reader.word) && !reader.tellsService(host.name.name, service.port)) {
                return true;
            }
        }
        return false;
    }

    // ---- what hosts send ----

    private Packet newPacket(Host host, int kind) {
        if (head >= tail) {
            head = 0;
            tail = 0;
        }
        Packet packet = queue[tail];
        if (packet == null) {
            packet = new Packet();
            queue[tail] = packet;
        }
        packet.start(host.number, host.part);
        packet.put(kind);
        counts[LOST + kind]++;
        return packet;
    }

    private void send(Packet packet) {
        counts[SENT]++;
        counts[SENT_BYTES] += packet.size;
        latest = packet;
        latestTime = time;
        if (tail < MOST_QUEUED) {
            tail++;
        }
    }

    private void sendAddress(Host host, int kind) {
        Packet packet = newPacket(host, kind);
        packet.putNumber(host.address.address, 2);
        packet.putNumber(host.id, 2);
        send(packet);
    }

    private void sendNameProbe(Host host) {
        Packet packet = newPacket(host, NPROBE);
        packet.putWord(host.name.name);
        packet.putNumber(host.address.address, 2);
        packet.putNumber(host.id, 2);
        send(packet);
    }

    private void sendAsk(Host host, Question question, boolean withKnown) {
        Cache cache = host.cache;
        int known = withKnown ? cache.knownCount(question, time) : 0;
        Packet packet = newPacket(host, ASK);
        packet.put(question.sort);
        packet.putWord(question.word);
        packet.put(known);
        for (int k = 0; k < cache.size && known > 0; k++) {
            Entry entry = cache.entries[k];
            if (!entry.isKnownTo(question, time)) {
                continue;
            }
            if (entry.sort == OF_TYPE) {
                packet.putWord(entry.name);
            }
            packet.putNumber(entry.value, 2);
            known--;
        }
        send(packet);
    }

    private void tellAddress(Host host) {
        Packet packet = newPacket(host, ANSWER);
        packet.put(1);
        packet.putAddressRecord(host, LIFE);
        send(packet);
    }

    private void tellAll(Host host, int life) {
        Packet packet = newPacket(host, ANSWER);
        packet.put(1 + host.serviceCount);
        packet.putAddressRecord(host, life);
        for (int k = 0; k < host.serviceCount; k++) {
            packet.putServiceRecord(host.services[k], host.name.name, life);
        }
        send(packet);
    }

    private void tellType(Host host, Word type) {
        int records = host.name.state == HOLDS ? host.serviceCountOf(type) : 0;
        if (records == 0) {
            return;
        }
        Packet packet = newPacket(host, ANSWER);
        packet.put(records);
        for (int k = 0; k < host.serviceCount; k++) {
            if (host.services[k].type.like(type)) {
                packet.putServiceRecord(host.services[k], host.name.name, LIFE);
            }
        }
        send(packet);
    }

    // ---- what can be seen ----

    public int look(int host, int what) throws IndexOutOfBoundsException, NoSuchElementException {
        if (host < 0 || host >= HOSTS) {
            throw new IndexOutOfBoundsException("no such host");
        }
        if (what < 0 || what > 11) {
            throw new NoSuchElementException("nothing such to look at");
        }
        Host seen = hosts[host];
        if (what == 9) {
            return seen.part;
        }
        if (!seen.isOn) {
            return what == 2 ? NONE : 0;
        }
        return seen.view(what);
    }

    public int sign(int host, int k) {
        Host seen = hostThatIsOn(host);
        if (seen == null || seen.name.state < PROBES) {
            return NONE;
        }
        return seen.name.name.at(k);
    }

    public int answers(int host, int question) {
        Question asked = openQuestion(host, question);
        if (asked == null) {
            return NONE;
        }
        return hosts[host].cache.countOf(asked);
    }

    public int found(int host, int question, int k, int what) {
        Question asked = openQuestion(host, question);
        if (asked == null) {
            return NONE;
        }
        Entry seen = hosts[host].cache.entryOf(asked, k);
        if (seen == null) {
            return NONE;
        }
        switch (what) {
            case 0:
                return seen.value;
            case 1:
                return (int) (seen.ends - time);
            case 2:
                return seen.sort == OF_TYPE ? seen.name.size : 0;
            default:
                return NONE;
        }
    }

    public int entry(int host, int k, int what) {
        Host seen = hostThatIsOn(host);
        if (seen == null || k < 0 || k >= seen.cache.size) {
            return NONE;
        }
        return seen.cache.entries[k].view(what, time);
    }

    public int count(int what) {
        if (what == 0) {
            return (int) time;
        }
        if (what == 10) {
            return (int) latestTime;
        }
        return what < 0 || what >= COUNTS ? NONE : counts[what];
    }

    public int holders(int address) {
        int holding = 0;
        for (int k = 0; k < HOSTS; k++) {
            Host host = hosts[k];
            if (host.isOn && host.address.isHeld() && host.address.address == address) {
                holding++;
            }
        }
        return holding;
    }

    public int sent(int i) {
        return latest == null ? NONE : latest.at(i);
    }

    // ---- the parts ----

    /** A name or a type, as it is written; great and small letters are alike when two are compared. */
    private static final class Word {
        static final int MOST = 15;

        final byte[] signs = new byte[MOST];
        int size = 0;

        static boolean isSign(int sign) {
            return (sign >= 'A' && sign <= 'Z') || (sign >= 'a' && sign <= 'z')
                || (sign >= '0' && sign <= '9') || sign == '-';
        }

        void clear() {
            size = 0;
        }

        void add(int sign) {
            if (size < MOST) {
                signs[size] = (byte) sign;
                size++;
            }
        }

        void copy(Word other) {
            for (int k = 0; k < other.size; k++) {
                signs[k] = other.signs[k];
            }
            size = other.size;
        }

        int at(int k) {
            return k < 0 || k >= size ? NONE : signs[k];
        }

        boolean like(Word other) {
            if (size != other.size) {
                return false;
            }
            for (int k = 0; k < size; k++) {
                int apart = signs[k] ^ other.signs[k];
                int small = signs[k] | 32;
                // A great letter and its small one differ in the bit of 32 alone.
                if (apart != 0 && (apart != 32 || small < 'a' || small > 'z')) {
                    return false;
                }
            }
            return true;
        }
    }

    /** Bytes with the highest first; of a packet that is sent also by whom and to which part. */
    private static final class Packet {
        static final int MOST = 200;
        static final int BACKWARD = 128;
        static final int MOST_WORDS = 1 + 2 * MOST_TOLD;

        final byte[] bytes = new byte[MOST];
        final int[] wordPlaces = new int[MOST_WORDS];
        int size = 0;
        int wordCount = 0;
        int sender = NONE;
        int part = 0;

        void start(int sendingHost, int sendersPart) {
            size = 0;
            wordCount = 0;
            sender = sendingHost;
            part = sendersPart;
        }

        int at(int k) {
            return k < 0 || k >= size ? NONE : bytes[k] & 255;
        }

        void put(int value) {
            if (size < MOST) {
                bytes[size] = (byte) value;
                size++;
            }
        }

        void putNumber(int value, int length) {
            for (int k = length - 1; k >= 0; k--) {
                put(value >> (8 * k));
            }
        }

        void putWord(Word word) {
            for (int k = 0; k < wordCount; k++) {
                if (spells(wordPlaces[k], word)) {
                    put(BACKWARD + wordPlaces[k]);
                    return;
                }
            }
            addWordPlace(size);
            put(word.size);
            for (int k = 0; k < word.size; k++) {
                put(word.signs[k]);
            }
        }

        void putAddressRecord(Host host, int life) {
            put(OF_NAME);
            put(1);
            putNumber(life, 4);
            putWord(host.name.name);
            putNumber(host.address.address, 2);
        }

        void putServiceRecord(Service service, Word name, int life) {
            put(OF_TYPE);
            put(0);
            putNumber(life, 4);
            putWord(service.type);
            putWord(name);
            putNumber(service.port, 2);
        }

        /** One byte can't lead back to places from 128 on, so those are not kept. */
        void addWordPlace(int place) {
            if (place < BACKWARD && wordCount < MOST_WORDS) {
                wordPlaces[wordCount] = place;
                wordCount++;
            }
        }

        boolean isWordPlace(int place) {
            for (int k = 0; k < wordCount; k++) {
                if (wordPlaces[k] == place) {
                    return true;
                }
            }
            return false;
        }

        boolean spells(int place, Word word) {
            if (place < 0 || place + word.size >= size || bytes[place] != word.size) {
                return false;
            }
            for (int k = 0; k < word.size; k++) {
                if (bytes[place + 1 + k] != word.signs[k]) {
                    return false;
                }
            }
            return true;
        }
    }

    /** A record as a packet tells it; of those in an ASK only the name and the value. */
    private static final class Told {
        final Word word = new Word();
        final Word name = new Word();
        int sort = 0;
        int life = 0;
        int value = 0;
        boolean unique = false;
    }

    /** What was read of one packet, until the next one is read. */
    private static final class Reader {
        final Told[] told = new Told[MOST_TOLD];
        final Word word = new Word();
        int toldCount = 0;
        int kind = 0;
        int address = 0;
        int id = 0;
        int sort = 0;
        private int place = 0;
        private boolean isBad = false;

        Reader() {
            for (int k = 0; k < MOST_TOLD; k++) {
                told[k] = new Told();
            }
        }

        boolean reads(Packet packet) {
            place = 0;
            isBad = false;
            toldCount = 0;
            packet.wordCount = 0;
            kind = readByte(packet);
            switch (kind) {
                case APROBE:
                case ATELL:
                    readClaim(packet);
                    break;
                case NPROBE:
                    readWord(packet, word);
                    readClaim(packet);
                    break;
                case ASK:
                    readAsk(packet);
                    break;
                case ANSWER:
                    readAnswer(packet);
                    break;
                default:
                    isBad = true;
                    break;
            }
            return !isBad && place == packet.size;
        }

        private void readClaim(Packet packet) {
            address = readAddress(packet);
            id = readPair(packet);
        }

        private void readAsk(Packet packet) {
            sort = readSort(packet);
            readWord(packet, word);
            toldCount = readUpTo(packet, MOST_TOLD);
            for (int k = 0; k < toldCount && !isBad; k++) {
                readTelling(packet, told[k], sort);
            }
        }

        private void readAnswer(Packet packet) {
            toldCount = readUpTo(packet, MOST_TOLD);
            if (toldCount == 0) {
                isBad = true;
            }
            for (int k = 0; k < toldCount && !isBad; k++) {
                Told next = told[k];
                next.sort = readSort(packet);
                next.unique = readUpTo(packet, 1) == 1;
                next.life = readLife(packet);
                readWord(packet, next.word);
                readTelling(packet, next, next.sort);
            }
        }

        private void readTelling(Packet packet, Told into, int ofSort) {
            if (ofSort == OF_TYPE) {
                readWord(packet, into.name);
                into.value = readPair(packet);
            } else {
                into.name.clear();
                into.value = readAddress(packet);
            }
        }

        private int readByte(Packet packet) {
            if (place >= packet.size) {
                isBad = true;
                return 0;
            }
            int value = packet.bytes[place] & 255;
            place++;
            return value;
        }

        private int readPair(Packet packet) {
            int high = readByte(packet);
            return high * 256 + readByte(packet);
        }

        private int readUpTo(Packet packet, int most) {
            int value = readByte(packet);
            if (value > most) {
                isBad = true;
                return 0;
            }
            return value;
        }

        private int readSort(Packet packet) {
            int value = readByte(packet);
            if (value != OF_NAME && value != OF_TYPE) {
                isBad = true;
            }
            return value;
        }

        private int readAddress(Packet packet) {
            int value = readPair(packet);
            if (value >= ADDRESSES) {
                isBad = true;
            }
            return value;
        }

        private int readLife(Packet packet) {
            int high = readPair(packet);
            int value = (high << 16) | readPair(packet);
            // The highest bit, told by a packet, is the sign here.
            if (value < 0) {
                isBad = true;
            }
            return value;
        }

        private void readWord(Packet packet, Word into) {
            int start = place;
            int first = readByte(packet);
            into.clear();
            if (first >= Packet.BACKWARD) {
                readWordAgain(packet, into, first - Packet.BACKWARD);
                return;
            }
            if (first < 1 || first > Word.MOST) {
                isBad = true;
                return;
            }
            for (int k = 0; k < first; k++) {
                int sign = readByte(packet);
                if (!Word.isSign(sign)) {
                    isBad = true;
                }
                into.add(sign);
            }
            packet.addWordPlace(start);
        }

        private void readWordAgain(Packet packet, Word into, int start) {
            if (!packet.isWordPlace(start)) {
                isBad = true;
                return;
            }
            int length = packet.at(start);
            for (int k = 1; k <= length && k <= Word.MOST; k++) {
                into.add(packet.at(start + k));
            }
        }

        boolean tellsAddress(int wanted) {
            for (int k = 0; k < toldCount; k++) {
                if (told[k].value == wanted) {
                    return true;
                }
            }
            return false;
        }

        boolean tellsService(Word name, int port) {
            for (int k = 0; k < toldCount; k++) {
                if (told[k].value == port && told[k].name.like(name)) {
                    return true;
                }
            }
            return false;
        }
    }

    /** A record that a host heard. */
    private static final class Entry {
        static final int REFRESHES = 4;

        final Word word = new Word();
        final Word name = new Word();
        int sort = 0;
        int value = 0;
        int life = 0;
        int refreshes = 0;
        long begins = 0;
        long ends = 0;
        long due = 0;
        boolean isDying = false;

        void become(Told told) {
            sort = told.sort;
            value = told.value;
            word.copy(told.word);
            name.copy(told.name);
        }

        void begin(int lifeTold, long now) {
            life = lifeTold;
            begins = now;
            ends = now + lifeTold;
            isDying = false;
            refreshes = 0;
            plan();
        }

        void die(long now) {
            isDying = true;
            ends = Math.min(ends, now + GRACE);
            plan();
        }

        void countRefresh() {
            refreshes++;
            plan();
        }

        private void plan() {
            if (isDying || refreshes >= REFRESHES) {
                due = ends;
            } else {
                long hundredths = 80 + 5 * refreshes;
                due = begins + life * hundredths / 100;
            }
        }

        boolean isOf(int wantedSort, Word wantedWord) {
            return sort == wantedSort && word.like(wantedWord);
        }

        boolean isTheOne(Told told) {
            return sort == told.sort && value == told.value
                && word.like(told.word) && name.like(told.name);
        }

        boolean isKnownTo(Question question, long now) {
            return sort == question.sort && 2 * (ends - now) > life && word.like(question.word);
        }

        int view(int what, long now) {
            switch (what) {
                case 0:
                    return sort;
                case 1:
                    return value;
                case 2:
                    return life;
                case 3:
                    return (int) begins;
                case 4:
                    return word.size;
                case 5:
                    return isDying ? 1 : 0;
                case 6:
                    return (int) (ends - now);
                default:
                    return NONE;
            }
        }
    }

    /** The entries of a host; those behind size are spare ones. */
    private static final class Cache {
        static final int MOST = 24;

        final Entry[] entries = new Entry[MOST];
        int size = 0;

        Cache() {
            for (int k = 0; k < MOST; k++) {
                entries[k] = new Entry();
            }
        }

        void hear(Told told, long now) {
            int place = placeOf(told);
            if (told.life == 0) {
                if (place != NONE) {
                    entries[place].die(now);
                }
                return;
            }
            if (place == NONE && size < MOST) {
                place = size;
                size++;
                entries[place].become(told);
            }
            if (place != NONE) {
                entries[place].begin(told.life, now);
            }
            if (told.unique) {
                outdateOthers(told, place, now);
            }
        }

        private int placeOf(Told told) {
            for (int k = 0; k < size; k++) {
                if (entries[k].isTheOne(told)) {
                    return k;
                }
            }
            return NONE;
        }

        private void outdateOthers(Told told, int place, long now) {
            for (int k = 0; k < size; k++) {
                Entry other = entries[k];
                if (k != place && now - other.begins > GRACE && other.isOf(told.sort, told.word)) {
                    other.die(now);
                }
            }
        }

        void remove(int place) {
            if (place < 0 || place >= size) {
                return;
            }
            Entry gone = entries[place];
            for (int k = place + 1; k < size; k++) {
                entries[k - 1] = entries[k];
            }
            size--;
            entries[size] = gone;
        }

        int knownCount(Question question, long now) {
            int known = 0;
            for (int k = 0; k < size && known < MOST_TOLD; k++) {
                if (entries[k].isKnownTo(question, now)) {
                    known++;
                }
            }
            return known;
        }

        int countOf(Question question) {
            int matching = 0;
            for (int k = 0; k < size; k++) {
                if (entries[k].isOf(question.sort, question.word)) {
                    matching++;
                }
            }
            return matching;
        }

        Entry entryOf(Question question, int wanted) {
            int matching = 0;
            for (int k = 0; k < size; k++) {
                if (entries[k].isOf(question.sort, question.word)) {
                    if (matching == wanted) {
                        return entries[k];
                    }
                    matching++;
                }
            }
            return null;
        }
    }

    private static final class Service {
        final Word type = new Word();
        int port = 0;
    }

    private static final class Reply {
        final Word type = new Word();
        long due = 0;
    }

    private static final class Question {
        static final int FIRST_WAIT = 1000;
        static final int MOST_WAIT = 64000;
        static final int NEAR = 100;

        final Word word = new Word();
        boolean isOpen = false;
        int sort = 0;
        int wait = 0;
        long due = 0;

        void start(int ofSort, int id, long now) {
            isOpen = true;
            sort = ofSort;
            wait = FIRST_WAIT;
            due = now + 20 + 11 * id % 100;
        }

        boolean isOf(int wantedSort, Word wantedWord) {
            return isOpen && sort == wantedSort && word.like(wantedWord);
        }

        boolean isNear(long now) {
            return due - now <= NEAR;
        }

        /** It has asked, or counts so: the next time is a wait behind, each wait twice the one ahead of it. */
        void putOff(long from) {
            due = from + wait;
            wait = Math.min(2 * wait, MOST_WAIT);
        }
    }

    /** The address that a host probes (ahead of the step that tells it) or holds (behind it). */
    private static final class AddressClaim {
        int tries = 0;
        int address = 0;
        int step = 0;
        long due = NEVER;
        long defended = NONE;

        void start(int id, long now) {
            tries = 0;
            defended = NONE;
            probe(id, now);
        }

        void probe(int id, long now) {
            address = (int) ((257L * id + 4093L * tries) % ADDRESSES);
            step = 0;
            due = now + (31L * id + 17L * tries) % 200;
        }

        boolean isHeld() {
            return step > TELL_STEP;
        }

        boolean mayDefend(long now) {
            return defended == NONE || now - defended >= DEFENCE;
        }

        void advance(long now) {
            step++;
            if (step <= TELL_STEP) {
                due = now + 200;
            } else {
                due = step == TELL_AGAIN_STEP ? now + 2000 : NEVER;
            }
        }

        void tellAgain(int id, long now) {
            step = TELL_AGAIN_STEP;
            due = now + 31 * id % 200;
        }
    }

    private static final class NameClaim {
        final Word wish = new Word();
        final Word name = new Word();
        int state = NO_WISH;
        int number = 1;
        int step = 0;
        long due = NEVER;

        void forget() {
            state = NO_WISH;
            number = 1;
            due = NEVER;
        }

        void pause() {
            state = WAITS;
            due = NEVER;
        }

        void probe(int id, long now) {
            state = PROBES;
            step = 0;
            due = now + 13 * id % 250;
        }

        void restart(long now) {
            step = 0;
            due = now + 1000;
        }

        void advance(long now) {
            step++;
            if (step <= TELL_STEP) {
                due = now + 250;
                return;
            }
            state = HOLDS;
            due = step == TELL_AGAIN_STEP ? now + 1000 : NEVER;
        }

        void tellAgain(int id, long now) {
            step = TELL_AGAIN_STEP;
            due = now + 13 * id % 250;
        }

        boolean isOf(Word other) {
            return state >= PROBES && name.like(other);
        }

        void rename() {
            number++;
            int digits = 1;
            int highest = 1;
            for (int rest = number / 10; rest > 0; rest /= 10) {
                digits++;
                highest *= 10;
            }
            int kept = Math.min(wish.size, Word.MOST - 1 - digits);
            name.clear();
            for (int k = 0; k < kept; k++) {
                name.add(wish.signs[k]);
            }
            name.add('-');
            for (int unit = highest; unit > 0; unit /= 10) {
                name.add('0' + number / unit % 10);
            }
        }
    }

    private static final class Host {
        final int number;
        final AddressClaim address = new AddressClaim();
        final NameClaim name = new NameClaim();
        final Service[] services = new Service[MOST_OPEN];
        final Question[] questions = new Question[MOST_OPEN];
        final Reply[] replies = new Reply[MOST_OPEN];
        final Cache cache = new Cache();
        boolean isOn = false;
        int id = 0;
        int part = 0;
        int conflicts = 0;
        int serviceCount = 0;
        int replyCount = 0;
        int saved = 0;
        int unreadable = 0;
        int toLose = 0;

        Host(int itsNumber) {
            number = itsNumber;
            for (int k = 0; k < MOST_OPEN; k++) {
                services[k] = new Service();
                questions[k] = new Question();
                replies[k] = new Reply();
            }
        }

        /** All but the part, which is the cable's, is as if the host had never been on. */
        void start(int itsId, long now) {
            isOn = true;
            id = itsId;
            conflicts = 0;
            serviceCount = 0;
            replyCount = 0;
            saved = 0;
            unreadable = 0;
            toLose = 0;
            cache.size = 0;
            for (int k = 0; k < MOST_OPEN; k++) {
                questions[k].isOpen = false;
            }
            name.forget();
            address.start(itsId, now);
        }

        void moveOn(long now) {
            conflicts++;
            address.tries++;
            address.probe(id, now);
            if (name.state != NO_WISH) {
                name.pause();
            }
        }

        long nextDue() {
            long next = Math.min(address.due, name.due);
            for (int k = 0; k < MOST_OPEN; k++) {
                if (questions[k].isOpen) {
                    next = Math.min(next, questions[k].due);
                }
            }
            for (int k = 0; k < replyCount; k++) {
                next = Math.min(next, replies[k].due);
            }
            for (int k = 0; k < cache.size; k++) {
                next = Math.min(next, cache.entries[k].due);
            }
            return next;
        }

        Question questionOf(int sort, Word word) {
            for (int k = 0; k < MOST_OPEN; k++) {
                if (questions[k].isOf(sort, word)) {
                    return questions[k];
                }
            }
            return null;
        }

        int openQuestions() {
            int open = 0;
            for (int k = 0; k < MOST_OPEN; k++) {
                if (questions[k].isOpen) {
                    open++;
                }
            }
            return open;
        }

        int serviceCountOf(Word type) {
            int matching = 0;
            for (int k = 0; k < serviceCount; k++) {
                if (services[k].type.like(type)) {
                    matching++;
                }
            }
            return matching;
        }

        boolean hasReply(Word type) {
            for (int k = 0; k < replyCount; k++) {
                if (replies[k].type.like(type)) {
                    return true;
                }
            }
            return false;
        }

        void removeReply(int place) {
            if (place < 0 || place >= replyCount) {
                return;
            }
            Reply gone = replies[place];
            for (int k = place + 1; k < replyCount; k++) {
                replies[k - 1] = replies[k];
            }
            replyCount--;
            replies[replyCount] = gone;
        }

        int view(int what) {
            switch (what) {
                case 0:
                    return 1;
                case 1:
                    return id;
                case 2:
                    return address.isHeld() ? address.address : NONE;
                case 3:
                    return address.tries;
                case 4:
                    return name.state;
                case 5:
                    return conflicts;
                case 6:
                    return serviceCount;
                case 7:
                    return openQuestions();
                case 8:
                    return cache.size;
                case 10:
                    return saved;
                case 11:
                    return unreadable;
                default:
                    return 0;
            }
        }
    }
}
