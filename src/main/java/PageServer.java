import java.util.NoSuchElementException;

/** A server of pages that talks in frames; ../shared/DOC.md says what it promises. */
public final class PageServer {
    public static final int NONE = -1;

    private static final int MOST_WAITING = 300;

    private static final int DATA = 0;
    private static final int HEADERS = 1;
    private static final int RESET = 3;
    private static final int SETTINGS = 4;
    private static final int PING = 6;
    private static final int AWAY = 7;
    private static final int WINDOW = 8;
    private static final int MORE = 9;

    private static final int END = 1;
    private static final int ACK = 1;
    private static final int DONE = 4;
    private static final int PADDED = 8;

    private static final int AGAINST_RULES = 1;
    private static final int TOO_MUCH = 3;
    private static final int STREAM_CLOSED = 5;
    private static final int WRONG_LENGTH = 6;
    private static final int REFUSED = 7;
    private static final int BAD_BLOCK = 9;

    private final Connection connection;

    public PageServer() {
        connection = new Connection();
    }

    public int page(int path, int more, int size, int b)
            throws IllegalArgumentException, IllegalStateException {
        if (!Site.isPath(path, more)) {
            throw new IllegalArgumentException("no path");
        }
        if (size < 0 || size > Site.LONGEST_BODY || b < 0 || b > 255) {
            throw new IllegalArgumentException("no body");
        }
        String text = Site.pathText(path, more);
        if (connection.site.find(text) != null) {
            throw new IllegalArgumentException("there is such a path");
        }
        if (connection.site.isFull()) {
            throw new IllegalStateException("the site is full");
        }
        return connection.site.add(text, size, b);
    }

    public boolean feed(int word, int n) {
        if (n < 1 || n > 4 || connection.output.count() > MOST_WAITING) {
            return false;
        }
        for (int k = n - 1; k >= 0; k--) {
            connection.receive((word >>> (8 * k)) & 255);
        }
        return true;
    }

    public void restart() {
        connection.begin();
    }

    public int waiting() {
        return connection.output.count();
    }

    public int out(int k) throws NoSuchElementException {
        if (k < 0 || k >= connection.output.count()) {
            throw new NoSuchElementException("no such byte waits");
        }
        return connection.output.byteAt(k);
    }

    public void take(int n) {
        connection.output.drop(n);
    }

    public int away() {
        return connection.awayCode;
    }

    public int about(int what) {
        switch (what) {
            case 0:
                return connection.streams.highest;
            case 1:
                return connection.streams.countOpen();
            case 2:
                return connection.window;
            case 3:
                return connection.longest;
            case 4:
                return connection.table.size;
            case 5:
                return connection.table.count;
            case 6:
                return connection.table.taken;
            case 7:
                return connection.block.count;
            default:
                return NONE;
        }
    }

    public int stream(int s, int what) throws NoSuchElementException {
        Stream found = connection.streams.find(s);
        if (found == null) {
            throw new NoSuchElementException("the stream is not open");
        }
        switch (what) {
            case 0:
                return found.window;
            case 1:
                return found.toSend;
            case 2:
                return found.counted;
            case 3:
                return found.clientClosed ? 1 : 0;
            default:
                throw new NoSuchElementException("nothing of this number is told");
        }
    }

    public int entry(int k, int part, int j) throws NoSuchElementException {
        Field found = connection.table.find(k);
        if (found == null || part < 0 || part > 1) {
            throw new NoSuchElementException("no such entry or part");
        }
        String text = part == 0 ? found.name : found.value;
        if (j < 0 || j >= text.length()) {
            throw new NoSuchElementException("no such character");
        }
        return text.charAt(j);
    }

    private static final class Page {
        final String path;
        final int size;
        final int b;

        Page(String path, int size, int b) {
            this.path = path;
            this.size = size;
            this.b = b;
        }
    }

    private static final class Site {
        static final int LONGEST_BODY = 60;
        private static final int MOST_PAGES = 8;

        private final Page[] pages = new Page[MOST_PAGES];
        private int count;

        static boolean isPath(int path, int more) {
            int first = countLetters(path);
            int second = countLetters(more);
            if (first < 0 || second < 0 || second > 3) {
                return false;
            }
            return second == 0 || first == 4;
        }

        /** NONE when a byte is no letter, or a 0 behind a letter. */
        private static int countLetters(int word) {
            int letters = 0;
            for (int shift = 24; shift >= 0; shift -= 8) {
                int b = (word >>> shift) & 255;
                if (b >= 'a' && b <= 'z') {
                    letters++;
                } else if (b != 0 || letters > 0) {
                    return NONE;
                }
            }
            return letters;
        }

        static String pathText(int path, int more) {
            StringBuilder text = new StringBuilder();
            text.append('/');
            appendLetters(text, path);
            appendLetters(text, more);
            return text.toString();
        }

        private static void appendLetters(StringBuilder text, int word) {
            for (int shift = 24; shift >= 0; shift -= 8) {
                int b = (word >>> shift) & 255;
                if (b != 0) {
                    text.append((char) b);
                }
            }
        }

        Page find(String path) {
            for (int k = 0; k < count; k++) {
                if (pages[k].path.equals(path)) {
                    return pages[k];
                }
            }
            return null;
        }

        boolean isFull() {
            return count >= MOST_PAGES;
        }

        int add(String path, int size, int b) {
            if (isFull()) {
                return NONE;
            }
            pages[count] = new Page(path, size, b);
            count++;
            return count - 1;
        }
    }

    /** The bytes that the server has to say and that nobody has taken yet. */
    private static final class Output {
        // One feed ends at most one frame, whose answers stay well below 400
        // bytes, and none is taken while more than 300 wait.
        private static final int ROOM = 1024;

        private final int[] bytes = new int[ROOM];
        private int count;

        void clear() {
            count = 0;
        }

        int count() {
            return count;
        }

        int byteAt(int k) {
            return k >= 0 && k < count ? bytes[k] : NONE;
        }

        void add(int b) {
            if (count < ROOM) {
                bytes[count] = b & 255;
                count++;
            }
        }

        void addHead(int length, int type, int flags, int stream) {
            add(length);
            add(type);
            add(flags);
            add(stream);
        }

        void drop(int n) {
            int gone = Math.max(0, Math.min(n, count));
            System.arraycopy(bytes, gone, bytes, 0, count - gone);
            count -= gone;
        }
    }

    /** The frame that is coming, and what it says once it is there. */
    private static final class Frame {
        static final int LONGEST = 200;
        private static final int HEAD = 4;

        private final int[] bytes = new int[HEAD + LONGEST];
        private int count;

        void clear() {
            count = 0;
        }

        void add(int b) {
            if (count < bytes.length) {
                bytes[count] = b;
                count++;
            }
        }

        boolean isTooLong() {
            return count >= HEAD && length() > LONGEST;
        }

        boolean isWhole() {
            return count >= HEAD && count >= HEAD + length();
        }

        int length() {
            return bytes[0];
        }

        int type() {
            return bytes[1];
        }

        boolean has(int flag) {
            return (bytes[2] & flag) != 0;
        }

        int streamNumber() {
            return bytes[3];
        }

        int byteAt(int k) {
            return k >= 0 && k < LONGEST ? bytes[HEAD + k] : 0;
        }

        int twoByteNumber() {
            return byteAt(0) * 256 + byteAt(1);
        }

        private boolean isPadded() {
            return (bytes[2] & PADDED) != 0 && (bytes[1] == DATA || bytes[1] == HEADERS);
        }

        boolean hasRoomForPadding() {
            return !isPadded() || length() > byteAt(0);
        }

        int contentStart() {
            return isPadded() ? 1 : 0;
        }

        int contentLength() {
            return isPadded() ? Math.max(0, length() - 1 - byteAt(0)) : length();
        }
    }

    private static final class Field {
        private static final int MOST_DIGITS = 3;

        final String name;
        final String value;
        /** What it takes as an entry. */
        final int takes;

        Field(String name, String value) {
            this.name = name;
            this.value = value;
            takes = 2 + name.length() + value.length();
        }

        boolean beginsWithColon() {
            return !name.isEmpty() && name.charAt(0) == ':';
        }

        boolean isNamedByLetters() {
            for (int k = 0; k < name.length(); k++) {
                if (name.charAt(k) < 'a' || name.charAt(k) > 'z') {
                    return false;
                }
            }
            return true;
        }

        /** NONE when the value is not one to three digits. */
        int numberValue() {
            if (value.isEmpty() || value.length() > MOST_DIGITS) {
                return NONE;
            }
            int number = 0;
            for (int k = 0; k < value.length(); k++) {
                char c = value.charAt(k);
                if (c < '0' || c > '9') {
                    return NONE;
                }
                number = number * 10 + (c - '0');
            }
            return number;
        }
    }

    /** The entries that are always there, and those that came, the newest first. */
    private static final class HeaderTable {
        static final int MOST_SIZE = 24;
        private static final int FIXED = 7;
        // An entry takes at least 3, its name being at least one character.
        private static final int MOST_CAME = MOST_SIZE / 3;

        private final Field[] fixed = new Field[FIXED];
        private final Field[] came = new Field[MOST_CAME];
        int size;
        int count;
        int taken;

        HeaderTable() {
            fixed[0] = new Field(":m", "GET");
            fixed[1] = new Field(":m", "HEAD");
            fixed[2] = new Field(":p", "/");
            fixed[3] = new Field("host", "");
            fixed[4] = new Field("length", "");
            fixed[5] = new Field(":s", "200");
            fixed[6] = new Field(":s", "404");
        }

        void clear() {
            size = MOST_SIZE;
            count = 0;
            taken = 0;
        }

        /** null when there is no such entry. */
        Field find(int i) {
            if (i >= 1 && i <= FIXED) {
                return fixed[i - 1];
            }
            if (i > FIXED && i - FIXED <= count) {
                return came[i - FIXED - 1];
            }
            return null;
        }

        /** null when there is no such entry. */
        String findName(int i) {
            Field found = find(i);
            return found == null ? null : found.name;
        }

        void changeSize(int n) {
            size = n;
            dropOldest(size);
        }

        void insert(Field field) {
            dropOldest(size - field.takes);
            if (field.takes > size || count >= MOST_CAME) {
                return;
            }
            for (int k = count; k > 0; k--) {
                came[k] = came[k - 1];
            }
            came[0] = field;
            count++;
            taken += field.takes;
        }

        private void dropOldest(int mostTaken) {
            while (count > 0 && taken > mostTaken) {
                count--;
                taken -= came[count].takes;
            }
        }
    }

    /** The latest block: gathered from its frames, then read into fields. */
    private static final class Block {
        private static final int LONGEST = 100;
        private static final int LONGEST_TEXT = 20;

        private final int[] bytes = new int[LONGEST];
        private final Field[] fields = new Field[LONGEST];
        private int position;
        int count;
        int fieldCount;
        int streamNumber;
        boolean hasEnd;
        boolean isComing;
        boolean isOver;

        void clear() {
            count = 0;
            fieldCount = 0;
            isComing = false;
            isOver = false;
        }

        void start(Frame frame) {
            clear();
            streamNumber = frame.streamNumber();
            hasEnd = frame.has(END);
        }

        /** false when the block would be too long: then nothing is added. */
        boolean add(Frame frame) {
            int more = frame.contentLength();
            if (count + more > LONGEST) {
                return false;
            }
            for (int k = 0; k < more; k++) {
                bytes[count + k] = frame.byteAt(frame.contentStart() + k);
            }
            count += more;
            isOver = frame.has(DONE);
            isComing = !isOver;
            return true;
        }

        Field field(int k) {
            return k >= 0 && k < fieldCount ? fields[k] : null;
        }

        /** false when the block cannot be read. */
        boolean read(HeaderTable table) {
            isOver = false;
            position = 0;
            for (int turn = 0; turn < LONGEST && position < count; turn++) {
                if (!readNext(table)) {
                    return false;
                }
            }
            return true;
        }

        private boolean readNext(HeaderTable table) {
            int first = bytes[position];
            position++;
            if (first >= 128) {
                return keep(table.find(first - 128));
            }
            if (first >= 64) {
                return readField(table, first - 64, true);
            }
            if (first >= 32) {
                return readSize(table, first - 32);
            }
            return first <= 15 && readField(table, first, false);
        }

        private boolean readSize(HeaderTable table, int n) {
            if (n > HeaderTable.MOST_SIZE || fieldCount > 0) {
                return false;
            }
            table.changeSize(n);
            return true;
        }

        private boolean readField(HeaderTable table, int nameEntry, boolean becomesEntry) {
            String name = nameEntry == 0 ? readText(1) : table.findName(nameEntry);
            if (name == null) {
                return false;
            }
            String value = readText(0);
            if (value == null) {
                return false;
            }
            Field field = new Field(name, value);
            if (becomesEntry) {
                table.insert(field);
            }
            return keep(field);
        }

        private boolean keep(Field field) {
            if (field == null || fieldCount >= LONGEST) {
                return false;
            }
            fields[fieldCount] = field;
            fieldCount++;
            return true;
        }

        /** null when there is no such text. */
        private String readText(int shortest) {
            if (position >= count) {
                return null;
            }
            int length = bytes[position];
            position++;
            if (length < shortest || length > LONGEST_TEXT || length > count - position) {
                return null;
            }
            char[] text = new char[length];
            for (int k = 0; k < length; k++) {
                int b = bytes[position + k];
                if (b < 33 || b > 126) {
                    return null;
                }
                text[k] = (char) b;
            }
            position += length;
            return new String(text);
        }
    }

    /** What a block asks for, if it is a request. */
    private static final class Request {
        String method;
        String path;
        int length;
        private boolean othersCame;

        /** false when the block is no request. */
        boolean readFrom(Block block) {
            method = null;
            path = null;
            length = NONE;
            othersCame = false;
            for (int k = 0; k < block.fieldCount; k++) {
                Field field = block.field(k);
                if (field == null) {
                    return false;
                }
                boolean accepted = field.beginsWithColon() ? acceptsColon(field) : acceptsOther(field);
                if (!accepted) {
                    return false;
                }
            }
            return method != null && path != null;
        }

        private boolean acceptsColon(Field field) {
            if (othersCame) {
                return false;
            }
            if (field.name.equals(":m") && method == null) {
                method = field.value;
                return true;
            }
            if (field.name.equals(":p") && path == null) {
                path = field.value;
                return true;
            }
            return false;
        }

        private boolean acceptsOther(Field field) {
            othersCame = true;
            if (!field.isNamedByLetters()) {
                return false;
            }
            if (!field.name.equals("length")) {
                return true;
            }
            if (length != NONE) {
                return false;
            }
            length = field.numberValue();
            return length != NONE;
        }
    }

    private static final class Stream {
        boolean isOpen;
        int number;
        int window;
        int toSend;
        int b;
        int counted;
        boolean clientClosed;
        int length = NONE;
        String method = "";
        String path = "";

        void open(int newNumber, int firstWindow, Request request) {
            isOpen = true;
            number = newNumber;
            window = firstWindow;
            toSend = 0;
            b = 0;
            counted = 0;
            clientClosed = false;
            length = request.length;
            method = request.method == null ? "" : request.method;
            path = request.path == null ? "" : request.path;
        }

        boolean canSend() {
            return isOpen && toSend > 0 && window > 0;
        }

        boolean hasWrongLength() {
            return length != NONE && length != counted;
        }
    }

    /** The open streams, in rows that are used again. */
    private static final class Streams {
        private static final int MOST_OPEN = 4;
        private static final int FIRST_WINDOW = 40;

        private final Stream[] rows = new Stream[MOST_OPEN];
        private int firstWindow;
        int highest;

        Streams() {
            for (int k = 0; k < MOST_OPEN; k++) {
                rows[k] = new Stream();
            }
        }

        void clear() {
            firstWindow = FIRST_WINDOW;
            highest = 0;
            for (int k = 0; k < MOST_OPEN; k++) {
                rows[k].isOpen = false;
            }
        }

        boolean isIdle(int number) {
            return number > highest || (number != 0 && number % 2 == 0);
        }

        /** null when the stream is not open. */
        Stream find(int number) {
            for (int k = 0; k < MOST_OPEN; k++) {
                if (rows[k].isOpen && rows[k].number == number) {
                    return rows[k];
                }
            }
            return null;
        }

        int countOpen() {
            int open = 0;
            for (int k = 0; k < MOST_OPEN; k++) {
                if (rows[k].isOpen) {
                    open++;
                }
            }
            return open;
        }

        /** null when no row is free. */
        Stream open(int number, Request request) {
            for (int k = 0; k < MOST_OPEN; k++) {
                if (!rows[k].isOpen) {
                    rows[k].open(number, firstWindow, request);
                    return rows[k];
                }
            }
            return null;
        }

        void close(int number) {
            Stream found = find(number);
            if (found != null) {
                found.isOpen = false;
            }
        }

        boolean isFull() {
            return countOpen() >= MOST_OPEN;
        }

        void changeFirstWindow(int value) {
            for (int k = 0; k < MOST_OPEN; k++) {
                if (rows[k].isOpen) {
                    rows[k].window += value - firstWindow;
                }
            }
            firstWindow = value;
        }

        /** null when no stream can send. */
        Stream nextToSend(int last) {
            Stream above = leastToSend(last);
            return above != null ? above : leastToSend(0);
        }

        private Stream leastToSend(int above) {
            Stream least = null;
            for (int k = 0; k < MOST_OPEN; k++) {
                Stream row = rows[k];
                if (row.canSend() && row.number > above
                        && (least == null || row.number < least.number)) {
                    least = row;
                }
            }
            return least;
        }
    }

    /** Looks at what comes, and says what is due. */
    private static final class Connection {
        private static final int[] PREFACE = {80, 82, 73, 10};
        private static final int HAS_PAGE = 134;
        private static final int NO_PAGE = 135;
        private static final int[] WRONG_METHOD = {6, 3, '4', '0', '5'};
        private static final int FIRST_WINDOW = 100;
        private static final int FIRST_LONGEST = 64;
        private static final int LEAST_LONGEST = 16;
        private static final int MOST_WINDOW = 30000;
        private static final int MOST_DATA = 80;
        private static final int MOST_STREAM_DATA = 50;
        // Four bodies of 60 bytes in frames of 16 and more are far fewer.
        private static final int MOST_TURNS = 1000;

        private final Frame frame = new Frame();
        private final Request request = new Request();
        final Site site = new Site();
        final Output output = new Output();
        final HeaderTable table = new HeaderTable();
        final Block block = new Block();
        final Streams streams = new Streams();
        private int prefaceCount;
        private boolean firstFrameCame;
        private int lastSent;
        int awayCode;
        int window;
        int longest;

        Connection() {
            begin();
        }

        /** All anew but the site, which restart keeps. */
        void begin() {
            frame.clear();
            output.clear();
            table.clear();
            block.clear();
            streams.clear();
            prefaceCount = 0;
            firstFrameCame = false;
            lastSent = 0;
            awayCode = 0;
            window = FIRST_WINDOW;
            longest = FIRST_LONGEST;
            output.addHead(2, SETTINGS, 0, 0);
            output.add(3);
            output.add(4);
        }

        void receive(int b) {
            if (awayCode != 0) {
                return;
            }
            if (prefaceCount < PREFACE.length) {
                receivePreface(b);
                return;
            }
            frame.add(b);
            if (frame.isTooLong()) {
                sendAway(WRONG_LENGTH);
                return;
            }
            if (!frame.isWhole()) {
                return;
            }
            lookAtFrame();
            if (awayCode == 0 && block.isOver) {
                endBlock();
            }
            if (awayCode == 0) {
                sendBodies();
            }
            firstFrameCame = true;
            frame.clear();
        }

        private void receivePreface(int b) {
            if (b == PREFACE[prefaceCount]) {
                prefaceCount++;
            } else {
                sendAway(AGAINST_RULES);
            }
        }

        private void lookAtFrame() {
            if (isOutOfOrder()) {
                sendAway(AGAINST_RULES);
                return;
            }
            switch (frame.type()) {
                case DATA:
                    lookAtData();
                    break;
                case HEADERS:
                    lookAtHeaders();
                    break;
                case RESET:
                    lookAtReset();
                    break;
                case SETTINGS:
                    lookAtSettings();
                    break;
                case PING:
                    lookAtPing();
                    break;
                case AWAY:
                    demandConnectionFrame(2);
                    break;
                case WINDOW:
                    lookAtWindow();
                    break;
                case MORE:
                    addToBlock();
                    break;
                default:
                    break;
            }
        }

        private boolean isOutOfOrder() {
            int type = frame.type();
            if (!firstFrameCame && (type != SETTINGS || frame.has(ACK))) {
                return true;
            }
            if (block.isComing) {
                return type != MORE || frame.streamNumber() != block.streamNumber;
            }
            return type == MORE;
        }

        private void lookAtData() {
            int number = frame.streamNumber();
            if (number == 0 || streams.isIdle(number) || !frame.hasRoomForPadding()) {
                sendAway(AGAINST_RULES);
                return;
            }
            if (frame.length() > MOST_DATA) {
                sendAway(TOO_MUCH);
                return;
            }
            sendWindow(0, frame.length());
            Stream stream = streams.find(number);
            if (stream == null || stream.clientClosed) {
                sendReset(number, STREAM_CLOSED);
                return;
            }
            if (frame.length() > MOST_STREAM_DATA) {
                sendReset(number, TOO_MUCH);
                return;
            }
            stream.counted += frame.contentLength();
            if (frame.has(END)) {
                closeClientSide(stream);
            } else {
                sendWindow(number, frame.length());
            }
        }

        private void lookAtHeaders() {
            int number = frame.streamNumber();
            if (number % 2 == 0 || !frame.hasRoomForPadding()) {
                sendAway(AGAINST_RULES);
                return;
            }
            if (number <= streams.highest) {
                Stream stream = streams.find(number);
                if (stream == null || stream.clientClosed) {
                    sendAway(STREAM_CLOSED);
                    return;
                }
            }
            block.start(frame);
            addToBlock();
        }

        private void addToBlock() {
            if (!block.add(frame)) {
                sendAway(BAD_BLOCK);
            }
        }

        private void endBlock() {
            if (!block.read(table)) {
                sendAway(BAD_BLOCK);
                return;
            }
            Stream stream = streams.find(block.streamNumber);
            if (stream == null) {
                openStream(block.streamNumber);
            } else {
                endOpenStream(stream);
            }
        }

        private void openStream(int number) {
            streams.highest = number;
            if (streams.isFull()) {
                sendReset(number, REFUSED);
                return;
            }
            Stream stream = request.readFrom(block) ? streams.open(number, request) : null;
            if (stream == null) {
                sendReset(number, AGAINST_RULES);
                return;
            }
            if (block.hasEnd) {
                closeClientSide(stream);
            }
        }

        private void endOpenStream(Stream stream) {
            boolean allowed = block.hasEnd;
            for (int k = 0; k < block.fieldCount; k++) {
                Field field = block.field(k);
                if (field != null && field.beginsWithColon()) {
                    allowed = false;
                }
            }
            if (allowed) {
                closeClientSide(stream);
            } else {
                sendReset(stream.number, AGAINST_RULES);
            }
        }

        private void closeClientSide(Stream stream) {
            stream.clientClosed = true;
            if (stream.hasWrongLength()) {
                sendReset(stream.number, AGAINST_RULES);
            } else {
                answer(stream);
            }
        }

        private void answer(Stream stream) {
            boolean isHead = stream.method.equals("HEAD");
            boolean isKnown = isHead || stream.method.equals("GET");
            Page page = isKnown ? site.find(stream.path) : null;
            int size = page == null || isHead ? 0 : page.size;
            int flags = size == 0 ? DONE + END : DONE;
            if (isKnown) {
                output.addHead(1, HEADERS, flags, stream.number);
                output.add(page == null ? NO_PAGE : HAS_PAGE);
            } else {
                output.addHead(WRONG_METHOD.length, HEADERS, flags, stream.number);
                for (int k = 0; k < WRONG_METHOD.length; k++) {
                    output.add(WRONG_METHOD[k]);
                }
            }
            if (page == null || size == 0) {
                stream.isOpen = false;
            } else {
                stream.toSend = size;
                stream.b = page.b;
            }
        }

        private void lookAtReset() {
            int number = frame.streamNumber();
            if (frame.length() != 1) {
                sendAway(WRONG_LENGTH);
            } else if (number == 0 || streams.isIdle(number)) {
                sendAway(AGAINST_RULES);
            } else {
                streams.close(number);
            }
        }

        private void lookAtSettings() {
            if (frame.streamNumber() != 0) {
                sendAway(AGAINST_RULES);
            } else if (frame.has(ACK)) {
                if (frame.length() > 0) {
                    sendAway(WRONG_LENGTH);
                }
            } else if (frame.length() % 2 != 0) {
                sendAway(WRONG_LENGTH);
            } else {
                takeSettings();
            }
        }

        private void takeSettings() {
            for (int k = 0; k + 1 < frame.length(); k += 2) {
                int value = frame.byteAt(k + 1);
                if (frame.byteAt(k) == 4) {
                    streams.changeFirstWindow(value);
                } else if (frame.byteAt(k) == 5) {
                    if (value < LEAST_LONGEST) {
                        sendAway(AGAINST_RULES);
                        return;
                    }
                    longest = value;
                }
            }
            output.addHead(0, SETTINGS, ACK, 0);
        }

        private void lookAtPing() {
            if (!demandConnectionFrame(4) || frame.has(ACK)) {
                return;
            }
            output.addHead(4, PING, ACK, 0);
            for (int k = 0; k < 4; k++) {
                output.add(frame.byteAt(k));
            }
        }

        /** false, with AWAY sent, when it is not of stream 0 and of this length. */
        private boolean demandConnectionFrame(int length) {
            if (frame.streamNumber() != 0) {
                sendAway(AGAINST_RULES);
                return false;
            }
            if (frame.length() != length) {
                sendAway(WRONG_LENGTH);
                return false;
            }
            return true;
        }

        private void lookAtWindow() {
            int number = frame.streamNumber();
            if (frame.length() != 2) {
                sendAway(WRONG_LENGTH);
                return;
            }
            if (streams.isIdle(number)) {
                sendAway(AGAINST_RULES);
                return;
            }
            int by = frame.twoByteNumber();
            if (number == 0) {
                widenConnection(by);
                return;
            }
            Stream stream = streams.find(number);
            if (stream != null) {
                widenStream(stream, by);
            }
        }

        private void widenConnection(int by) {
            if (by == 0) {
                sendAway(AGAINST_RULES);
            } else if (window + by > MOST_WINDOW) {
                sendAway(TOO_MUCH);
            } else {
                window += by;
            }
        }

        private void widenStream(Stream stream, int by) {
            if (by == 0) {
                sendReset(stream.number, AGAINST_RULES);
            } else if (stream.window + by > MOST_WINDOW) {
                sendReset(stream.number, TOO_MUCH);
            } else {
                stream.window += by;
            }
        }

        private void sendBodies() {
            for (int turn = 0; turn < MOST_TURNS && window > 0; turn++) {
                Stream stream = streams.nextToSend(lastSent);
                if (stream == null) {
                    return;
                }
                sendData(stream);
            }
        }

        private void sendData(Stream stream) {
            int part = Math.min(Math.min(stream.window, window), Math.min(longest, stream.toSend));
            boolean isLast = part == stream.toSend;
            output.addHead(part, DATA, isLast ? END : 0, stream.number);
            for (int k = 0; k < part; k++) {
                output.add(stream.b);
            }
            stream.window -= part;
            window -= part;
            stream.toSend -= part;
            lastSent = stream.number;
            if (isLast) {
                stream.isOpen = false;
            }
        }

        private void sendWindow(int number, int by) {
            if (by > 0) {
                output.addHead(2, WINDOW, 0, number);
                output.add(by / 256);
                output.add(by % 256);
            }
        }

        private void sendReset(int number, int code) {
            output.addHead(1, RESET, 0, number);
            output.add(code);
            streams.close(number);
        }

        private void sendAway(int code) {
            awayCode = code;
            output.addHead(2, AWAY, 0, 0);
            output.add(streams.highest);
            output.add(code);
        }
    }
}
