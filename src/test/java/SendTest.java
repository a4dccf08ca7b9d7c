/** Promise 3: how DATA are sent, at the end of 'Terms'. */
public final class SendTest {
    public static void main(String[] args) {
        Check.run(SendTest::afterEachFrame,
                SendTest::notAfterAway,
                SendTest::windowAboveZero,
                SendTest::nextNumberAbove,
                SendTest::leastIfNoneIsAbove,
                SendTest::lastOneMayBeOver,
                SendTest::asItsWindowAllows,
                SendTest::asTheConnectionsWindowAllows,
                SendTest::asTheLongestFrameAllows,
                SendTest::asItsBytesAllow,
                SendTest::bothWindowsAreLess,
                SendTest::lastOnesWithEnd,
                SendTest::untilThereIsNoSuchStream,
                SendTest::untilTheConnectionsWindowIsZero);
    }

    /** Streams 3, 5 and 9 have 60 bytes each to be sent and no window; the connection's is wide. */
    private static Talk threeWaiting() {
        return Talk.withPages().settings(4, 0, 5, 16).widen(0, 768).ask(3, Talk.getting('a')).ask(5, Talk.getting('b'))
                .ask(9, Talk.getting('a')).hushed();
    }

    private static void afterEachFrame() {
        Check.of("Terms, DATA are sent", "After each frame (but one that led to AWAY) DATA are sent");
        Talk talk = threeWaiting();
        talk.bytes(2, 8, 0, 5, 0);
        Check.same("a frame that is not whole", talk.told(), "");
        talk.bytes(9);
        Check.same("when it is", talk.told(), "DATA 0 of 5: 2*9");
        talk.settings(4, 1);
        Check.same("behind what the frame leads to", talk.told(),
                "SETTINGS 1 of 0:; DATA 0 of 9: 1; DATA 0 of 3: 1; DATA 0 of 5: 2");
        Talk reset = Talk.withPages().settings(4, 60).ask(1, Talk.getting('a')).ask(3, Talk.getting('b'))
                .askOpen(5, Talk.getting('a')).hushed();
        Check.same("behind RESET, as the window is 0", reset.widen(5, 0).told(), "RESET 0 of 5: 1");
    }

    private static void notAfterAway() {
        Check.of("Terms, DATA are sent", "After each frame (but one that led to AWAY)");
        Talk talk = threeWaiting().settings(4, 60, 5, 1);
        Check.same("AWAY alone", talk.told(), "AWAY 0 of 0: 9 1");
        Check.same("60 are to be sent still", talk.streamText(3), "60 60 0 1");
    }

    private static void windowAboveZero() {
        Check.of("Terms, DATA are sent", "in turn of the streams that have bytes to be sent and a window above 0");
        Talk talk = threeWaiting();
        Check.same("0", talk.ping().told(), "PING 1 of 0: 1 2 3 4");
        Check.same("1 of one", talk.widen(9, 1).told(), "DATA 0 of 9: 1");
        Talk below = Talk.withPages().ask(1, Talk.getting('a')).settings(4, 39).hushed();
        Check.same("-1", below.ping().told() + " " + below.stream(1, 0), "PING 1 of 0: 1 2 3 4 -1");
        Talk none = Talk.withPages().askOpen(1, Talk.getting('a')).ask(3, Talk.getting('b'));
        Check.same("one without bytes is passed over", none.told(), "HEADERS 4 of 3: 134; DATA 0 of 3: 2*40");
    }

    private static void nextNumberAbove() {
        Check.of("Terms, DATA are sent", "the one of the next number above that of the last one");
        Talk talk = threeWaiting().settings(4, 20);
        Check.same("in turn", talk.told(), "SETTINGS 1 of 0:; DATA 0 of 3: 1*16; DATA 0 of 5: 2*16; "
                + "DATA 0 of 9: 1*16; DATA 0 of 3: 1*4; DATA 0 of 5: 2*4; DATA 0 of 9: 1*4");
        Check.same("5 alone", talk.widen(5, 1).told(), "DATA 0 of 5: 2");
        Check.same("above the last one of the frame before", talk.settings(4, 22).told(),
                "SETTINGS 1 of 0:; DATA 0 of 9: 1 1; DATA 0 of 3: 1 1; DATA 0 of 5: 2 2");
        talk.widen(3, 1).ask(11, Talk.getting('b')).hushed();
        Check.same("11 was the last", talk.settings(4, 23).told(),
                "SETTINGS 1 of 0:; DATA 0 of 3: 1; DATA 0 of 5: 2; DATA 0 of 9: 1; DATA 0 of 11: 2");
    }

    private static void leastIfNoneIsAbove() {
        Check.of("Terms, DATA are sent", "(the least, if there is none above)");
        Talk talk = threeWaiting().widen(9, 1).hushed();
        Check.same("9 was the last", talk.settings(4, 1).told(),
                "SETTINGS 1 of 0:; DATA 0 of 3: 1; DATA 0 of 5: 2; DATA 0 of 9: 1");
        talk.widen(9, 1).frame(Talk.RESET, 0, 3, 0).hushed();
        Check.same("the least is 5", talk.settings(4, 2).told(), "SETTINGS 1 of 0:; DATA 0 of 5: 2; DATA 0 of 9: 1");
        Talk alone = Talk.withPages().settings(4, 60, 5, 16).hushed().ask(255, Talk.getting('a'));
        Check.same("one alone", alone.told(), "HEADERS 4 of 255: 134; DATA 0 of 255: 1*16; DATA 0 of 255: 1*16; "
                + "DATA 0 of 255: 1*16; DATA 1 of 255: 1*12");
    }

    private static void lastOneMayBeOver() {
        Check.of("Terms, DATA are sent", "the one of the next number above that of the last one");
        Talk talk = threeWaiting().widen(5, 16).frame(Talk.RESET, 0, 5, 0).hushed();
        Check.same("5 was reset", talk.settings(4, 1).told(), "SETTINGS 1 of 0:; DATA 0 of 9: 1; DATA 0 of 3: 1");
        Talk sent = threeWaiting().widen(5, 60).hushed();
        Check.same("5 was sent", sent.settings(4, 1).told(), "SETTINGS 1 of 0:; DATA 0 of 9: 1; DATA 0 of 3: 1");
    }

    private static void asItsWindowAllows() {
        Check.of("Terms, DATA are sent", "as many as its window");
        Talk talk = Talk.withPages().settings(4, 59).hushed().ask(1, Talk.getting('a'));
        Check.same("59 of 60", talk.told() + " " + talk.streamText(1),
                "HEADERS 4 of 1: 134; DATA 0 of 1: 1*59 0 1 0 1");
        Talk just = Talk.withPages().settings(4, 60).hushed().ask(1, Talk.getting('a'));
        Check.same("60 of 60", just.told(), "HEADERS 4 of 1: 134; DATA 1 of 1: 1*60");
    }

    private static void asTheConnectionsWindowAllows() {
        Check.of("Terms, DATA are sent", "the connection's (100 at first)");
        Talk talk = Talk.withPages().settings(4, 255).hushed().ask(1, Talk.getting('a')).ask(3, Talk.getting('b'));
        Check.same("60 and 40", talk.told(), "HEADERS 4 of 1: 134; DATA 1 of 1: 1*60; "
                + "HEADERS 4 of 3: 134; DATA 0 of 3: 2*40");
        Check.same("19 more", talk.widen(0, 19).told(), "DATA 0 of 3: 2*19");
        Check.same("1 more, the last", talk.widen(0, 1).told(), "DATA 1 of 3: 2");
    }

    private static void asTheLongestFrameAllows() {
        Check.of("Terms, DATA are sent", "the LONGEST frame, and its bytes allow");
        Talk talk = Talk.withPages().settings(4, 255, 5, 59).hushed().ask(1, Talk.getting('a'));
        Check.same("59 and 1", talk.told(), "HEADERS 4 of 1: 134; DATA 0 of 1: 1*59; DATA 1 of 1: 1");
        Talk just = Talk.withPages().settings(4, 255, 5, 60).hushed().ask(1, Talk.getting('a'));
        Check.same("60", just.told(), "HEADERS 4 of 1: 134; DATA 1 of 1: 1*60");
        Talk least = Talk.withPages().settings(4, 32, 5, 16).hushed().ask(1, Talk.getting('a'));
        Check.same("16 and 16", least.told(), "HEADERS 4 of 1: 134; DATA 0 of 1: 1*16; DATA 0 of 1: 1*16");
    }

    private static void asItsBytesAllow() {
        Check.of("Terms, DATA are sent", "and its bytes allow");
        Talk talk = Talk.begun();
        talk.page('o', 0, 1, 0);
        talk.ask(1, Talk.getting('o'));
        Check.same("1", talk.told() + " " + talk.about(2), "HEADERS 4 of 1: 134; DATA 1 of 1: 0 99");
    }

    private static void bothWindowsAreLess() {
        Check.of("Terms, DATA are sent", "both windows are less by this");
        Talk talk = Talk.withPages().settings(4, 50).widen(0, 5).hushed().ask(1, Talk.getting('a'));
        Check.same("50 of 50 and 105", talk.stream(1, 0) + " " + talk.about(2), "0 55");
        talk.widen(1, 3);
        Check.same("3 of 3 and 55", talk.stream(1, 0) + " " + talk.about(2), "0 52");
        talk.ask(3, Talk.getting('b'));
        Check.same("50 of 50 and 52", talk.stream(3, 0) + " " + talk.about(2), "0 2");
        talk.ask(5, Talk.getting('b'));
        Check.same("2 of 50 and 2", talk.stream(5, 0) + " " + talk.about(2), "48 0");
    }

    private static void lastOnesWithEnd() {
        Check.of("Terms, DATA are sent", "the last ones with END: the stream is over");
        Talk talk = Talk.withPages().ask(1, Talk.getting('a')).widen(1, 19).hushed();
        Check.same("one is to be sent", talk.streamText(1), "0 1 0 1");
        talk.widen(1, 9);
        Check.same("it is sent", talk.told() + " " + talk.streamText(1) + " " + talk.about(0, 2),
                "DATA 1 of 1: 1 not open 1 0 40");
        Check.same("nothing is sent behind", talk.widen(0, 9).settings().told(), "SETTINGS 1 of 0:");
    }

    private static void untilThereIsNoSuchStream() {
        Check.of("Terms, DATA are sent", "It goes on until there is no such stream");
        Talk talk = threeWaiting().settings(4, 60);
        Check.same("all is sent", talk.told(), "SETTINGS 1 of 0:; DATA 0 of 3: 1*16; DATA 0 of 5: 2*16; "
                + "DATA 0 of 9: 1*16; DATA 0 of 3: 1*16; DATA 0 of 5: 2*16; DATA 0 of 9: 1*16; "
                + "DATA 0 of 3: 1*16; DATA 0 of 5: 2*16; DATA 0 of 9: 1*16; "
                + "DATA 1 of 3: 1*12; DATA 1 of 5: 2*12; DATA 1 of 9: 1*12");
        Check.same("none is open", talk.about(0, 2), "9 0 688");
    }

    private static void untilTheConnectionsWindowIsZero() {
        Check.of("Terms, DATA are sent", "or the connection's window is 0 (or less)");
        Talk talk = Talk.withPages().settings(4, 255).ask(1, Talk.getting('a')).ask(3, Talk.getting('b')).hushed();
        Check.same("it is 0", talk.about(2), 0);
        talk.ask(5, Talk.getting('a'));
        Check.same("nothing is sent", talk.told() + " " + talk.streamText(5), "HEADERS 4 of 5: 134 255 60 0 1");
        Check.same("5, being above 3, goes first", talk.widen(0, 70).told(), "DATA 1 of 5: 1*60; DATA 0 of 3: 2*10");
        Check.same("the last ones", talk.widen(0, 10).told() + " " + talk.about(1, 2), "DATA 1 of 3: 2*10 0 0");
    }
}
