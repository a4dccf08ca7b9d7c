/** Promise 3: the rows RESET, PING, AWAY and other types of 'Terms'. */
public final class ControlTest {
    public static void main(String[] args) {
        Check.run(ControlTest::resetOfWrongLength,
                ControlTest::resetOfStreamZeroOrIdle,
                ControlTest::resetCloses,
                ControlTest::resetOfOneThatIsNotOpen,
                ControlTest::pingNotOfStreamZero,
                ControlTest::pingOfWrongLength,
                ControlTest::pingIsAnswered,
                ControlTest::pingWithAck,
                ControlTest::awayNotOfStreamZero,
                ControlTest::awayOfWrongLength,
                ControlTest::awayDoesNothing,
                ControlTest::otherTypes,
                ControlTest::firstThatHolds);
    }

    /** Stream 3 is open and waits for DATA, 1 was left out. */
    private static Talk open() {
        return Talk.withPages().askOpen(3, Talk.getting('a'));
    }

    private static void away(String what, Talk talk, int code) {
        Check.same(what, talk.told() + " " + talk.away(), "AWAY 0 of 0: 3 " + code + " " + code);
    }

    private static void resetOfWrongLength() {
        Check.of("Terms, RESET", "its length is not 1: AWAY 6");
        away("0", open().frame(Talk.RESET, 0, 3), 6);
        away("2", open().frame(Talk.RESET, 0, 3, 0, 0), 6);
        away("200", open().frame(Talk.RESET, 0, 3, Talk.times(200, 0)), 6);
        Check.same("1", open().frame(Talk.RESET, 0, 3, 0).away(), 0);
        Check.same("the stream stays open", open().frame(Talk.RESET, 0, 3).streamText(3), "40 0 0 0");
    }

    private static void resetOfStreamZeroOrIdle() {
        Check.of("Terms, RESET", "of stream 0 or an IDLE one: AWAY 1");
        for (int stream : new int[] {0, 2, 4, 5, 255}) {
            away("of " + stream, open().frame(Talk.RESET, 0, stream, 8), 1);
        }
    }

    private static void resetCloses() {
        Check.of("Terms, RESET", "The stream is open no more");
        Talk talk = Talk.withPages().ask(1, Talk.getting('a')).askOpen(3, Talk.getting('b')).hushed();
        talk.frame(Talk.RESET, 0, 1, 8);
        Check.same("nothing is said", talk.told(), "");
        Check.same("1", talk.streamText(1), "not open");
        Check.same("3", talk.streamText(3), "40 0 0 0");
        Check.same("about", talk.about(0, 1), "3 1");
        talk.widen(1, 20);
        Check.same("its body is not sent", talk.told() + talk.away(), "0");
        talk.frame(Talk.RESET, 0, 3, 255);
        Check.same("one that waits for DATA", talk.told() + talk.about(1), "0");
        Check.same("DATA for it", talk.frame(Talk.DATA, 0, 3).told(), "RESET 0 of 3: 5");
    }

    private static void resetOfOneThatIsNotOpen() {
        Check.of("Terms, RESET", "of stream 0 or an IDLE one: AWAY 1");
        Talk talk = open().frame(Talk.RESET, 0, 1, 8).frame(Talk.RESET, 0, 3, 8).frame(Talk.RESET, 0, 3, 8);
        Check.same("left out, and closed before", talk.told() + talk.away(), "0");
    }

    private static void pingNotOfStreamZero() {
        Check.of("Terms, PING", "not of stream 0: AWAY 1");
        for (int stream : new int[] {1, 2, 3, 5, 255}) {
            away("of " + stream, open().frame(Talk.PING, 0, stream, 1, 2, 3, 4), 1);
            away("of " + stream + " with ACK", open().frame(Talk.PING, Talk.ACK, stream, 1, 2, 3, 4), 1);
        }
    }

    private static void pingOfWrongLength() {
        Check.of("Terms, PING", "a length other than 4: AWAY 6");
        for (int length : new int[] {0, 1, 3, 5, 8, 200}) {
            away("" + length, open().frame(Talk.PING, 0, 0, Talk.times(length, 1)), 6);
            away(length + " with ACK", open().frame(Talk.PING, Talk.ACK, 0, Talk.times(length, 1)), 6);
        }
    }

    private static void pingIsAnswered() {
        Check.of("Terms, PING", "without ACK: PING with ACK and the same bytes is sent");
        Check.same("bytes", open().frame(Talk.PING, 0, 0, 9, 0, 255, 128).told(), "PING 1 of 0: 9 0 255 128");
        Check.same("bytes of 0", open().frame(Talk.PING, 0, 0, 0, 0, 0, 0).told(), "PING 1 of 0: 0*4");
    }

    private static void pingWithAck() {
        Check.of("Terms, PING", "without ACK");
        Talk talk = open().frame(Talk.PING, Talk.ACK, 0, 1, 2, 3, 4);
        Check.same("with ACK", talk.told() + talk.away(), "0");
    }

    private static void awayNotOfStreamZero() {
        Check.of("Terms, AWAY", "AWAY: likewise, a length other than 2; nothing");
        for (int stream : new int[] {1, 2, 3, 255}) {
            away("of " + stream, open().frame(Talk.AWAY, 0, stream, 0, 1), 1);
        }
    }

    private static void awayOfWrongLength() {
        Check.of("Terms, AWAY", "a length other than 2");
        for (int length : new int[] {0, 1, 3, 4, 200}) {
            away("" + length, open().frame(Talk.AWAY, 0, 0, Talk.times(length, 0)), 6);
        }
    }

    private static void awayDoesNothing() {
        Check.of("Terms, AWAY", "a length other than 2; nothing");
        Talk talk = open();
        String before = talk.all();
        talk.frame(Talk.AWAY, 0, 0, 3, 9);
        Check.same("all", talk.all(), before);
        Check.same("it goes on", talk.ask(5, Talk.getting('e')).told(), "HEADERS 5 of 5: 134");
    }

    private static void otherTypes() {
        Check.of("Terms, Other types", "Other types: nothing");
        String before = open().all();
        for (int type = 0; type <= 255; type++) {
            boolean known = type <= 1 || type == 3 || type == 4 || type >= 6 && type <= 9;
            if (!known) {
                Check.same(type + " of an open stream", open().frame(type, 255, 3, 1, 2, 3).all(), before);
                Check.same(type + " of stream 0", open().frame(type, 0, 0).all(), before);
                Check.same(type + " of an idle one", open().frame(type, 1, 8, Talk.times(200, 7)).all(), before);
            }
        }
    }

    private static void firstThatHolds() {
        Check.of("Terms, A FRAME", "the first that holds");
        away("RESET of length 0 of an idle one", open().frame(Talk.RESET, 0, 5), 6);
        away("RESET of length 2 of stream 0", open().frame(Talk.RESET, 0, 0, 0, 0), 6);
        away("PING of length 3 of stream 3", open().frame(Talk.PING, 0, 3, 1, 2, 3), 1);
        away("AWAY of length 1 of stream 3", open().frame(Talk.AWAY, 0, 3, 1), 1);
    }
}
