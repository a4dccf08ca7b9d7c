/** Promise 3: what is looked at before a frame's type, in 'A FRAME' of 'Terms'. */
public final class OrderTest {
    public static void main(String[] args) {
        Check.run(OrderTest::tooLong,
                OrderTest::tooLongBeforeAllElse,
                OrderTest::firstIsNoSettings,
                OrderTest::firstHasAck,
                OrderTest::firstBeforeItsOwnRules,
                OrderTest::noMoreBehindHeaders,
                OrderTest::noMoreBehindMore,
                OrderTest::moreOfAnotherStream,
                OrderTest::moreAlone,
                OrderTest::orderBeforeOwnRules,
                OrderTest::moreEndsBlock);
    }

    private static void away(String what, Talk talk, int highest, int code) {
        Check.same(what, talk.told() + " " + talk.away(), "AWAY 0 of 0: " + highest + " " + code + " " + code);
    }

    private static void tooLong() {
        Check.of("Terms, A FRAME", "Its length, as soon as its first four bytes are there, is above 200: AWAY 6");
        for (int length : new int[] {201, 202, 255}) {
            Talk talk = Talk.begun();
            talk.bytes(length).bytes(2).bytes(0);
            Check.same(length + ", three bytes are there", talk.told() + talk.away(), "0");
            away(length + ", four bytes are there", talk.bytes(0), 0, 6);
        }
        Talk most = Talk.begun();
        most.frame(2, 0, 0, Talk.times(200, 1));
        Check.same("200", most.told() + most.away(), "0");
    }

    private static void tooLongBeforeAllElse() {
        Check.of("Terms, A FRAME", "the first that holds");
        away("the first frame", new Talk().hushed().preface().bytes(201, 1, 0, 1), 0, 6);
        away("within a block", Talk.begun().frame(Talk.HEADERS, 0, 1, 129).bytes(201, 0, 0, 1), 0, 6);
        away("MORE alone", Talk.begun().bytes(201, Talk.MORE, 0, 1), 0, 6);
        away("DATA of stream 0", Talk.begun().bytes(201, Talk.DATA, 0, 0), 0, 6);
        away("HEADERS of an even stream", Talk.begun().bytes(201, Talk.HEADERS, 0, 2), 0, 6);
    }

    private static void firstIsNoSettings() {
        Check.of("Terms, A FRAME", "It is the first, and no SETTINGS, or has ACK: AWAY 1");
        for (int type = 0; type <= 255; type++) {
            Talk talk = new Talk().hushed().preface().frame(type, 0, 0);
            Check.same("first of type " + type, talk.told(),
                    type == Talk.SETTINGS ? "SETTINGS 1 of 0:" : "AWAY 0 of 0: 0 1");
        }
        Talk request = new Talk().hushed().preface().ask(1, Talk.GET, Talk.ROOT);
        away("a request as the first", request, 0, 1);
        Talk ping = new Talk().hushed().preface().ping();
        away("PING as the first", ping, 0, 1);
    }

    private static void firstHasAck() {
        Check.of("Terms, A FRAME", "It is the first, and no SETTINGS, or has ACK: AWAY 1");
        away("SETTINGS with ACK", new Talk().hushed().preface().frame(Talk.SETTINGS, Talk.ACK, 0), 0, 1);
        Talk others = new Talk().hushed().preface().frame(Talk.SETTINGS, 254, 0);
        Check.same("SETTINGS with all other flags", others.told(), "SETTINGS 1 of 0:");
        others.frame(Talk.SETTINGS, Talk.ACK, 0);
        Check.same("the second may have it", others.told() + others.away(), "0");
        others.ping();
        Check.same("the third is PING", others.told(), "PING 1 of 0: 1 2 3 4");
    }

    private static void firstBeforeItsOwnRules() {
        Check.of("Terms, A FRAME", "the first that holds");
        away("ACK and a length", new Talk().hushed().preface().frame(Talk.SETTINGS, Talk.ACK, 0, 1), 0, 1);
        away("PING of length 0", new Talk().hushed().preface().frame(Talk.PING, 0, 0), 0, 1);
        away("DATA of 81", new Talk().hushed().preface().frame(Talk.DATA, 0, 1, Talk.times(81, 0)), 0, 1);
        away("SETTINGS of an odd length", new Talk().hushed().preface().frame(Talk.SETTINGS, 0, 0, 4), 0, 6);
        away("SETTINGS not of stream 0", new Talk().hushed().preface().frame(Talk.SETTINGS, 0, 1), 0, 1);
    }

    private static void noMoreBehindHeaders() {
        Check.of("Terms, A FRAME", "HEADERS or MORE without DONE came before it, and it is no MORE");
        for (int type = 0; type <= 255; type++) {
            for (int stream : new int[] {0, 1}) {
                Talk talk = Talk.begun().frame(Talk.HEADERS, Talk.END, 1, 129).frame(type, 0, stream);
                boolean allowed = type == Talk.MORE && stream == 1;
                Check.same("type " + type + " of " + stream, talk.told(), allowed ? "" : "AWAY 0 of 0: 0 1");
            }
        }
        Talk again = Talk.begun().frame(Talk.HEADERS, 0, 1, 129).askOpen(1, 131);
        away("HEADERS again", again, 0, 1);
        away("a whole PING", Talk.begun().frame(Talk.HEADERS, 0, 1, 129).ping(), 0, 1);
    }

    private static void noMoreBehindMore() {
        Check.of("Terms, A FRAME", "HEADERS or MORE without DONE came before it, and it is no MORE");
        away("PING", Talk.begun().frame(Talk.HEADERS, 0, 1, 129).frame(Talk.MORE, 0, 1).ping(), 0, 1);
        away("HEADERS", Talk.begun().frame(Talk.HEADERS, 0, 1, 129).frame(Talk.MORE, 0, 1).askOpen(1, 131), 0, 1);
    }

    private static void moreOfAnotherStream() {
        Check.of("Terms, A FRAME", "and it is no MORE, or of another stream");
        for (int stream : new int[] {0, 1, 2, 4, 5, 255}) {
            away("of " + stream, Talk.begun().frame(Talk.HEADERS, 0, 3, 129).frame(Talk.MORE, Talk.DONE, stream, 131),
                    0, 1);
        }
        away("behind MORE", Talk.begun().frame(Talk.HEADERS, 0, 3, 129).frame(Talk.MORE, 0, 3)
                .frame(Talk.MORE, Talk.DONE, 1, 131), 0, 1);
    }

    private static void moreAlone() {
        Check.of("Terms, A FRAME", "or it is a MORE, and they did not: AWAY 1");
        away("at the beginning", Talk.begun().frame(Talk.MORE, Talk.DONE, 1, 129, 131), 0, 1);
        away("of stream 0", Talk.begun().frame(Talk.MORE, Talk.DONE, 0), 0, 1);
        away("behind HEADERS with DONE", Talk.begun().askOpen(1, 129, 131).frame(Talk.MORE, Talk.DONE, 1, 132), 1, 1);
        away("behind MORE with DONE", Talk.begun().frame(Talk.HEADERS, 0, 1, 129).frame(Talk.MORE, Talk.DONE, 1, 131)
                .frame(Talk.MORE, Talk.DONE, 1, 132), 1, 1);
        away("behind a block that was no request", Talk.begun().askOpen(1).hushed().frame(Talk.MORE, Talk.DONE, 1), 1, 1);
        away("behind PING", Talk.begun().ping().hushed().frame(Talk.MORE, 0, 1), 0, 1);
    }

    private static void orderBeforeOwnRules() {
        Check.of("Terms, A FRAME", "the first that holds");
        away("PING of length 3 within a block", Talk.begun().frame(Talk.HEADERS, 0, 1, 129)
                .frame(Talk.PING, 0, 0, 1, 2, 3), 0, 1);
        away("DATA of 81 within a block", Talk.begun().askOpen(1, 129, 131).frame(Talk.HEADERS, 0, 3, 129)
                .frame(Talk.DATA, 0, 1, Talk.times(81, 0)), 1, 1);
        away("MORE of 101 alone", Talk.begun().frame(Talk.MORE, 0, 1, Talk.times(101, 132)), 0, 1);
        away("MORE of 101 of another stream", Talk.begun().frame(Talk.HEADERS, 0, 1, 129)
                .frame(Talk.MORE, 0, 3, Talk.times(101, 132)), 0, 1);
    }

    private static void moreEndsBlock() {
        Check.of("Terms, HEADERS", "MORE is its continuation");
        Talk talk = Talk.begun();
        talk.frame(Talk.HEADERS, Talk.END, 1).frame(Talk.MORE, 0, 1, 129).frame(Talk.MORE, 0, 1)
                .frame(Talk.MORE, Talk.DONE, 1, 131);
        Check.same("in pieces, empty ones too", talk.told(), "HEADERS 5 of 1: 135");
        talk.ping();
        Check.same("then all types may come", talk.told(), "PING 1 of 0: 1 2 3 4");
    }
}
