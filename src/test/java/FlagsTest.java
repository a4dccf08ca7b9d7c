/** Promise 3: the types and flags of 'Terms'. */
public final class FlagsTest {
    private static final int EVERY = 255;

    public static void main(String[] args) {
        Check.run(FlagsTest::endOfData,
                FlagsTest::endOfHeaders,
                FlagsTest::ackOfSettings,
                FlagsTest::ackOfPing,
                FlagsTest::doneOfHeadersAndMore,
                FlagsTest::paddingAtTheEnd,
                FlagsTest::firstByteIsNoPadding,
                FlagsTest::otherFlags);
    }

    private static void endOfData() {
        Check.of("Terms, TYPES", "1 END (of DATA and HEADERS)");
        Talk talk = Talk.withPages();
        talk.askOpen(1, Talk.getting('e')).frame(Talk.DATA, EVERY - Talk.END - Talk.PADDED, 1);
        Check.same("DATA without END", talk.told() + talk.stream(1, 3), "0");
        talk.frame(Talk.DATA, Talk.END, 1);
        Check.same("DATA with END", talk.told(), "HEADERS 5 of 1: 134");
    }

    private static void endOfHeaders() {
        Check.of("Terms, TYPES", "1 END (of DATA and HEADERS)");
        Talk talk = Talk.withPages();
        talk.frame(Talk.HEADERS, EVERY - Talk.END - Talk.PADDED, 1, Talk.getting('e'));
        Check.same("HEADERS without END", talk.told() + talk.stream(1, 3), "0");
        talk.frame(Talk.HEADERS, Talk.END, 3, Talk.getting('e')).frame(Talk.MORE, Talk.DONE, 3);
        Check.same("HEADERS with END, which MORE has not", talk.told(), "HEADERS 5 of 3: 134");
        talk.frame(Talk.HEADERS, 0, 5, Talk.getting('e')).frame(Talk.MORE, Talk.DONE + Talk.END, 5);
        Check.same("END of MORE is not used", talk.told() + talk.stream(5, 3), "0");
    }

    private static void ackOfSettings() {
        Check.of("Terms, TYPES", "ACK (of SETTINGS and PING)");
        Talk talk = Talk.begun();
        talk.frame(Talk.SETTINGS, EVERY - Talk.ACK, 0, 5, 20);
        Check.same("SETTINGS without ACK", talk.told() + talk.about(3), "SETTINGS 1 of 0:20");
        talk.frame(Talk.SETTINGS, EVERY, 0);
        Check.same("SETTINGS with ACK", talk.told() + talk.away(), "0");
    }

    private static void ackOfPing() {
        Check.of("Terms, TYPES", "ACK (of SETTINGS and PING)");
        Talk talk = Talk.begun();
        talk.frame(Talk.PING, EVERY - Talk.ACK, 0, 1, 2, 3, 4);
        Check.same("PING without ACK", talk.told(), "PING 1 of 0: 1 2 3 4");
        talk.frame(Talk.PING, EVERY, 0, 1, 2, 3, 4);
        Check.same("PING with ACK", talk.told() + talk.away(), "0");
    }

    private static void doneOfHeadersAndMore() {
        Check.of("Terms, TYPES", "4 DONE (of HEADERS and MORE)");
        Talk talk = Talk.withPages();
        talk.frame(Talk.HEADERS, EVERY - Talk.DONE - Talk.PADDED, 1, Talk.GET);
        Check.same("HEADERS without DONE", talk.told() + talk.state(), "0 0 100 64 24 0 0 1");
        talk.frame(Talk.MORE, EVERY - Talk.DONE, 1, 3, 2, '/');
        Check.same("MORE without DONE", talk.told() + talk.state(), "0 0 100 64 24 0 0 4");
        talk.frame(Talk.MORE, Talk.DONE, 1, 'e');
        Check.same("MORE with DONE", talk.told(), "HEADERS 5 of 1: 134");
        talk.ask(3, Talk.getting('e'));
        Check.same("HEADERS with DONE", talk.told(), "HEADERS 5 of 3: 134");
    }

    private static void paddingAtTheEnd() {
        Check.of("Terms, TYPES", "the first byte says how many bytes at the end are of no meaning");
        Talk talk = Talk.withPages();
        talk.frame(Talk.HEADERS, Talk.DONE + Talk.PADDED, 1, Talk.join(new int[] {3}, Talk.getting('e'), Talk.times(3, 16)));
        Check.same("HEADERS: the block", talk.state(), "1 1 100 64 24 0 0 5");
        talk.frame(Talk.DATA, Talk.PADDED, 1, 4, 9, 9, 0, 0, 0, 0);
        Check.same("DATA: what is counted", talk.stream(1, 2), 2);
        talk.hushed().frame(Talk.HEADERS, Talk.END, 3, Talk.GET);
        talk.frame(Talk.MORE, Talk.DONE + Talk.PADDED, 3, 3, 2, '/', 'e');
        Check.same("MORE has none", talk.told(), "HEADERS 5 of 3: 134");
    }

    private static void firstByteIsNoPadding() {
        Check.of("Terms, TYPES", "it has none itself");
        Talk talk = Talk.withPages();
        talk.frame(Talk.HEADERS, Talk.DONE + Talk.PADDED, 1, Talk.join(new int[] {0}, Talk.getting('e')));
        Check.same("HEADERS, no padding: the block", talk.state(), "1 1 100 64 24 0 0 5");
        talk.frame(Talk.DATA, Talk.PADDED, 1, 0, 9, 9);
        Check.same("DATA, no padding: what is counted", talk.stream(1, 2), 2);
        talk.frame(Talk.DATA, Talk.PADDED, 1, 0);
        Check.same("DATA of this byte alone", talk.stream(1, 2), 2);
        talk.frame(Talk.HEADERS, Talk.END + Talk.PADDED, 3, 0);
        Check.same("HEADERS of this byte alone", talk.about(7), 0);
    }

    private static void otherFlags() {
        Check.of("Terms, TYPES", "FLAGS, those that are used");
        alike(Talk.DATA, Talk.END + Talk.PADDED, 1, 1, 5, 0);
        alike(Talk.HEADERS, Talk.END + Talk.DONE + Talk.PADDED, 3, 0, 132, 132);
        alike(Talk.HEADERS, Talk.END + Talk.DONE + Talk.PADDED, 5, 0, Talk.GET, Talk.ROOT);
        alike(Talk.RESET, 0, 3, 1);
        alike(Talk.SETTINGS, Talk.ACK, 0, 4, 50, 5, 20);
        alike(Talk.SETTINGS, Talk.ACK, 0);
        alike(Talk.PING, Talk.ACK, 0, 1, 2, 3, 4);
        alike(Talk.AWAY, 0, 0, 1, 1);
        alike(Talk.WINDOW, 0, 1, 0, 9);
        for (int type : new int[] {2, 5, 10, 255}) {
            alike(type, 0, 1, 1, 2, 3);
        }
        for (int flags = 0; flags <= EVERY; flags++) {
            Talk one = Talk.withPages().frame(Talk.HEADERS, 0, 3, Talk.GET).frame(Talk.MORE, flags, 3, Talk.ROOT);
            Talk two = Talk.withPages().frame(Talk.HEADERS, 0, 3, Talk.GET)
                    .frame(Talk.MORE, flags & Talk.DONE, 3, Talk.ROOT);
            Check.same("MORE with flags " + flags, one.all(), two.all());
        }
    }

    /** All flags do what those of them do that are used. */
    private static void alike(int type, int used, int stream, int... body) {
        for (int flags = 0; flags <= EVERY; flags++) {
            Talk one = talkOfTwo().frame(type, flags, stream, body);
            Talk two = talkOfTwo().frame(type, flags & used, stream, body);
            Check.same("type " + type + " with flags " + flags, one.all(), two.all());
        }
    }

    /** Stream 1 has bytes to be sent in part, 3 waits for DATA. */
    private static Talk talkOfTwo() {
        return Talk.withPages().ask(1, Talk.getting('a')).askOpen(3, Talk.getting('b')).hushed();
    }
}
