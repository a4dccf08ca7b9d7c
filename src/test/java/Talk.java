import java.util.ArrayList;
import java.util.List;

/** A client's side of a talk with a server: puts frames together and reads what comes back. */
final class Talk {
    static final int DATA = 0;
    static final int HEADERS = 1;
    static final int RESET = 3;
    static final int SETTINGS = 4;
    static final int PING = 6;
    static final int AWAY = 7;
    static final int WINDOW = 8;
    static final int MORE = 9;

    static final int END = 1;
    static final int ACK = 1;
    static final int DONE = 4;
    static final int PADDED = 8;

    /** Fields of blocks: :m GET, :m HEAD, :p / */
    static final int GET = 129;
    static final int HEAD = 130;
    static final int ROOT = 131;

    final PageServer server = new PageServer();

    /** A talk whose preface and first SETTINGS are over, with nothing waiting. */
    static Talk begun() {
        Talk talk = new Talk();
        talk.begin();
        return talk;
    }

    /** As begun, with the pages / (50 bytes 7), /a (60 bytes 1), /b (60 bytes 2) and /e (empty). */
    static Talk withPages() {
        Talk talk = new Talk();
        talk.server.page(0, 0, 50, 7);
        talk.server.page('a', 0, 60, 1);
        talk.server.page('b', 0, 60, 2);
        talk.server.page('e', 0, 0, 3);
        talk.begin();
        return talk;
    }

    void begin() {
        bytes(80, 82, 73, 10);
        frame(SETTINGS, 0, 0);
        takeAll();
    }

    Talk bytes(int... bytes) {
        for (int at = 0; at < bytes.length; at += 4) {
            int n = Math.min(4, bytes.length - at);
            int word = 0;
            for (int k = 0; k < n; k++) {
                word = word << 8 | bytes[at + k];
            }
            Check.same("feed", server.feed(word, n), true);
        }
        return this;
    }

    Talk frame(int type, int flags, int stream, int... body) {
        int[] whole = new int[4 + body.length];
        whole[0] = body.length;
        whole[1] = type;
        whole[2] = flags;
        whole[3] = stream;
        System.arraycopy(body, 0, whole, 4, body.length);
        return bytes(whole);
    }

    /** HEADERS with DONE and END. */
    Talk ask(int stream, int... block) {
        return frame(HEADERS, DONE + END, stream, block);
    }

    /** HEADERS with DONE alone: the request's DATA are to come. */
    Talk askOpen(int stream, int... block) {
        return frame(HEADERS, DONE, stream, block);
    }

    /** A block of GET and the path / and one letter, none of which becomes an entry. */
    static int[] getting(int letter) {
        return new int[] {GET, 3, 2, '/', letter};
    }

    static int[] times(int n, int b) {
        int[] all = new int[n];
        java.util.Arrays.fill(all, b);
        return all;
    }

    static int[] join(int[]... parts) {
        int length = 0;
        for (int[] part : parts) {
            length += part.length;
        }
        int[] all = new int[length];
        int at = 0;
        for (int[] part : parts) {
            System.arraycopy(part, 0, all, at, part.length);
            at += part.length;
        }
        return all;
    }

    /** A string as it stands in a block: its length and its characters. */
    static int[] text(String text) {
        int[] all = new int[1 + text.length()];
        all[0] = text.length();
        for (int k = 0; k < text.length(); k++) {
            all[1 + k] = text.charAt(k);
        }
        return all;
    }

    /** A field of a name and a value of its own that does not become an entry. */
    static int[] field(String name, String value) {
        return join(new int[] {0}, text(name), text(value));
    }

    /** As field, and it becomes an entry. */
    static int[] entering(String name, String value) {
        return join(new int[] {64}, text(name), text(value));
    }

    void takeAll() {
        server.take(server.waiting());
    }

    /** All bytes that wait, which are taken. */
    List<Integer> said() {
        List<Integer> all = new ArrayList<>();
        for (int k = 0; k < server.waiting(); k++) {
            all.add(server.out(k));
        }
        takeAll();
        return all;
    }

    /** As said, told in words: a frame is its name, flags and stream, and its bytes, equal ones as b*n. */
    String told() {
        List<Integer> bytes = said();
        StringBuilder text = new StringBuilder();
        int at = 0;
        while (at + 4 <= bytes.size()) {
            int end = at + 4 + bytes.get(at);
            if (text.length() > 0) {
                text.append("; ");
            }
            text.append(name(bytes.get(at + 1))).append(' ').append(bytes.get(at + 2));
            text.append(" of ").append(bytes.get(at + 3)).append(':');
            appendBody(text, bytes.subList(at + 4, end));
            at = end;
        }
        return text.toString();
    }

    private static void appendBody(StringBuilder text, List<Integer> body) {
        int from = 0;
        while (from < body.size()) {
            int to = from;
            while (to < body.size() && body.get(to).equals(body.get(from))) {
                to++;
            }
            text.append(' ').append(body.get(from));
            if (to - from > 2) {
                text.append('*').append(to - from);
            } else if (to - from == 2) {
                text.append(' ').append(body.get(from));
            }
            from = to;
        }
    }

    private static String name(int type) {
        switch (type) {
            case DATA: return "DATA";
            case HEADERS: return "HEADERS";
            case RESET: return "RESET";
            case SETTINGS: return "SETTINGS";
            case PING: return "PING";
            case AWAY: return "AWAY";
            case WINDOW: return "WINDOW";
            default: return "type " + type;
        }
    }

    /** The state that about tells, as one text. */
    String state() {
        StringBuilder text = new StringBuilder();
        for (int what = 0; what <= 7; what++) {
            text.append(what > 0 ? " " : "").append(server.about(what));
        }
        return text.toString();
    }

    String entryText(int k) {
        return part(k, 0) + "=" + part(k, 1);
    }

    private String part(int k, int part) {
        StringBuilder text = new StringBuilder();
        for (int j = 0; j < 30; j++) {
            try {
                text.append((char) server.entry(k, part, j));
            } catch (java.util.NoSuchElementException e) {
                return text.toString();
            }
        }
        return text.toString();
    }
}
