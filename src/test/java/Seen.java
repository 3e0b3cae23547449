import java.util.ArrayList;
import java.util.List;

/** All that can be seen of a cable, a line for each answer. It changes nothing: end() of the very length cuts none. */
final class Seen {
    private final CableNames x;
    private final List<String> lines = new ArrayList<>();

    private Seen(CableNames x) {
        this.x = x;
    }

    static List<String> of(CableNames x) {
        Seen seen = new Seen(x);
        seen.add("bytes on the tape", tapeLength(x));
        seen.cable();
        for (int host = 0; host < 8; host++) {
            seen.host(host);
            seen.questions(host);
        }
        return seen.lines;
    }

    static int tapeLength(CableNames x) {
        for (int n = 200; n > 0; n--) {
            if (x.end(n) == n) {
                return n;
            }
        }
        return 0;
    }

    private void add(String call, int answer) {
        lines.add(call + " = " + answer);
    }

    private void cable() {
        for (int what = 0; what <= 10; what++) {
            add("count(" + what + ")", x.count(what));
        }
        for (int i = 0; x.sent(i) != CableNames.NONE; i++) {
            add("sent(" + i + ")", x.sent(i));
        }
    }

    private void host(int host) {
        for (int what = 0; what < 12; what++) {
            add("look(" + host + ", " + what + ")", x.look(host, what));
        }
        int address = x.look(host, 2);
        add("holders(" + address + ")", x.holders(address));
        lines.add("name of " + host + " = " + Check.name(x, host));
        for (int k = 0; x.entry(host, k, 0) != CableNames.NONE; k++) {
            for (int what = 0; what < 7; what++) {
                add("entry(" + host + ", " + k + ", " + what + ")", x.entry(host, k, what));
            }
        }
    }

    private void questions(int host) {
        for (int question = 0; question < 4; question++) {
            int answers = x.answers(host, question);
            add("answers(" + host + ", " + question + ")", answers);
            for (int k = 0; k < answers; k++) {
                for (int what = 0; what < 3; what++) {
                    add("found(" + host + ", " + question + ", " + k + ", " + what + ")",
                        x.found(host, question, k, what));
                }
            }
        }
    }
}
