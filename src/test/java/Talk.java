import java.util.ArrayList;
import java.util.Arrays;
import java.util.List;
import java.util.NoSuchElementException;

/** A client's side of a talk with a server: puts frames together and reads what comes back. */
final class Talk {
    static final int DATA = 0;
    static final int HEADERS = 1;
    static final int RESET = 3;
    static final int SETTINGS = 4;
    static final int PING = 6;
    static final int AWAY = 7;
    static final int WINDOW = 8;
    static final int MORE = 9;

    static final int END = 1;
    static final int ACK = 1;
    static final int DONE = 4;
    static final int PADDED = 8;

    /** Fields of blocks: :m GET, :m HEAD, :p / and host with an empty value. */
    static final int GET = 129;
    static final int HEAD = 130;
    static final int ROOT = 131;
    static final int HOST = 132;

    /** What the document promises of one object ends behind so many calls. */
    static final int MOST_CALLS = 512;

    private final PageServer server = new PageServer();
    private int calls;

    /** A talk whose preface and first SETTINGS are over, with nothing waiting. */
    static Talk begun() {
        Talk talk = new Talk();
        talk.begin();
        return talk;
    }

    /** As begun, with the pages / (50 bytes 7), /a (60 bytes 1), /b (60 bytes 2) and /e (empty). */
    static Talk withPages() {
        Talk talk = new Talk();
        talk.page(0, 0, 50, 7);
        talk.page('a', 0, 60, 1);
        talk.page('b', 0, 60, 2);
        talk.page('e', 0, 0, 3);
        talk.begin();
        return talk;
    }

    void begin() {
        preface().frame(SETTINGS, 0, 0);
        takeAll();
    }

    Talk preface() {
        return bytes(80, 82, 73, 10);
    }

    // ---- the calls of the face, counted

    private PageServer counted() {
        calls++;
        if (calls == MOST_CALLS + 1) {
            Check.same("calls of one object", "more than 512", "at most 512");
        }
        return server;
    }

    int calls() {
        return calls;
    }

    int page(int path, int more, int size, int b) {
        return counted().page(path, more, size, b);
    }

    boolean feed(int word, int n) {
        return counted().feed(word, n);
    }

    void restart() {
        counted().restart();
    }

    int waiting() {
        return counted().waiting();
    }

    int out(int k) {
        return counted().out(k);
    }

    void take(int n) {
        counted().take(n);
    }

    int away() {
        return counted().away();
    }

    int about(int what) {
        return counted().about(what);
    }

    int stream(int s, int what) {
        return counted().stream(s, what);
    }

    int entry(int k, int part, int j) {
        return counted().entry(k, part, j);
    }

    // ---- what the client says

    Talk bytes(int... bytes) {
        for (int at = 0; at < bytes.length; at += 4) {
            int n = Math.min(4, bytes.length - at);
            int word = 0;
            for (int k = 0; k < n; k++) {
                word = word << 8 | bytes[at + k];
            }
            Check.same("feed", feed(word, n), true);
        }
        return this;
    }

    Talk frame(int type, int flags, int stream, int... body) {
        return bytes(join(new int[] {body.length, type, flags, stream}, body));
    }

    /** HEADERS with DONE and END. */
    Talk ask(int stream, int... block) {
        return frame(HEADERS, DONE + END, stream, block);
    }

    /** HEADERS with DONE alone: the request's DATA are to come. */
    Talk askOpen(int stream, int... block) {
        return frame(HEADERS, DONE, stream, block);
    }

    Talk ping() {
        return frame(PING, 0, 0, 1, 2, 3, 4);
    }

    /** WINDOW by this number. */
    Talk widen(int stream, int by) {
        return frame(WINDOW, 0, stream, by / 256, by % 256);
    }

    Talk settings(int... pairs) {
        return frame(SETTINGS, 0, 0, pairs);
    }

    /** Takes what waits, to hear alone what comes then. */
    Talk hushed() {
        takeAll();
        return this;
    }

    /** A block of GET and the path / and one letter, none of which becomes an entry. */
    static int[] getting(int letter) {
        return new int[] {GET, 3, 2, '/', letter};
    }

    static int[] times(int n, int b) {
        int[] all = new int[n];
        Arrays.fill(all, b);
        return all;
    }

    static int[] join(int[]... parts) {
        int length = 0;
        for (int[] part : parts) {
            length += part.length;
        }
        int[] all = new int[length];
        int at = 0;
        for (int[] part : parts) {
            System.arraycopy(part, 0, all, at, part.length);
            at += part.length;
        }
        return all;
    }

    /** A string as it stands in a block: its length and its characters. */
    static int[] text(String text) {
        int[] all = new int[1 + text.length()];
        all[0] = text.length();
        for (int k = 0; k < text.length(); k++) {
            all[1 + k] = text.charAt(k);
        }
        return all;
    }

    /** A field of a name and a value of its own that does not become an entry. */
    static int[] field(String name, String value) {
        return join(new int[] {0}, text(name), text(value));
    }

    /** As field, and it becomes an entry. */
    static int[] entering(String name, String value) {
        return join(new int[] {64}, text(name), text(value));
    }

    // ---- what the server says

    void takeAll() {
        take(Integer.MAX_VALUE);
    }

    private List<Integer> heard() {
        List<Integer> all = new ArrayList<>();
        int waiting = waiting();
        for (int k = 0; k < waiting; k++) {
            all.add(out(k));
        }
        return all;
    }

    /** All bytes that wait, which are taken. */
    List<Integer> said() {
        List<Integer> all = heard();
        takeAll();
        return all;
    }

    /** As said, told in words: a frame is its name, flags and stream, and its bytes, equal ones as b*n. */
    String told() {
        List<Integer> bytes = said();
        StringBuilder text = new StringBuilder();
        int at = 0;
        while (at < bytes.size()) {
            if (at + 4 > bytes.size() || at + 4 + bytes.get(at) > bytes.size()) {
                return text.append(" and no whole frame: ").append(bytes.subList(at, bytes.size())).toString();
            }
            int end = at + 4 + bytes.get(at);
            if (text.length() > 0) {
                text.append("; ");
            }
            text.append(name(bytes.get(at + 1))).append(' ').append(bytes.get(at + 2));
            text.append(" of ").append(bytes.get(at + 3)).append(':');
            appendBody(text, bytes.subList(at + 4, end));
            at = end;
        }
        return text.toString();
    }

    private static void appendBody(StringBuilder text, List<Integer> body) {
        int from = 0;
        while (from < body.size()) {
            int to = from;
            while (to < body.size() && body.get(to).equals(body.get(from))) {
                to++;
            }
            text.append(' ').append(body.get(from));
            if (to - from > 2) {
                text.append('*').append(to - from);
            } else if (to - from == 2) {
                text.append(' ').append(body.get(from));
            }
            from = to;
        }
    }

    private static String name(int type) {
        switch (type) {
            case DATA: return "DATA";
            case HEADERS: return "HEADERS";
            case RESET: return "RESET";
            case SETTINGS: return "SETTINGS";
            case PING: return "PING";
            case AWAY: return "AWAY";
            case WINDOW: return "WINDOW";
            default: return "type " + type;
        }
    }

    // ---- what the server tells of itself

    /** The state that about tells, as one text. */
    String state() {
        return about(0, 7);
    }

    /** What about tells, from one what to another. */
    String about(int from, int to) {
        StringBuilder text = new StringBuilder();
        for (int what = from; what <= to; what++) {
            text.append(what > from ? " " : "").append(about(what));
        }
        return text.toString();
    }

    /** All that is told of an open stream; "not open" of another. */
    String streamText(int s) {
        try {
            return stream(s, 0) + " " + stream(s, 1) + " " + stream(s, 2) + " " + stream(s, 3);
        } catch (NoSuchElementException e) {
            return "not open";
        }
    }

    String entryText(int k) {
        return part(k, 0) + "=" + part(k, 1);
    }

    private String part(int k, int part) {
        StringBuilder text = new StringBuilder();
        for (int j = 0; j < 30; j++) {
            try {
                text.append((char) entry(k, part, j));
            } catch (NoSuchElementException e) {
                return text.toString();
            }
        }
        return text.toString();
    }

    /** The entries that came, the newest first. */
    String came() {
        StringBuilder text = new StringBuilder();
        int last = 7 + about(5);
        for (int k = 8; k <= last; k++) {
            text.append(k > 8 ? " " : "").append(entryText(k));
        }
        return text.toString();
    }

    /** All that can be told without changing anything. */
    String all() {
        StringBuilder text = new StringBuilder();
        text.append("away ").append(away()).append(", about ").append(state());
        int highest = about(0);
        for (int s = 1; s <= highest; s += 2) {
            String told = streamText(s);
            if (!told.equals("not open")) {
                text.append(", stream ").append(s).append(": ").append(told);
            }
        }
        return text.append(", entries ").append(came()).append(", waiting ").append(heard()).toString();
    }
}
