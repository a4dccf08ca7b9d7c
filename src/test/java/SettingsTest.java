/** Promise 3: the row SETTINGS of 'Terms'. */
public final class SettingsTest {
    public static void main(String[] args) {
        Check.run(SettingsTest::notOfStreamZero,
                SettingsTest::ackWithLength,
                SettingsTest::ackDoesNothing,
                SettingsTest::oddLength,
                SettingsTest::noPairs,
                SettingsTest::windowsOfOpenStreams,
                SettingsTest::windowsBelowZero,
                SettingsTest::newStreamsBeginWithIt,
                SettingsTest::leastAndMostFirstWindow,
                SettingsTest::windowsHaveNoMost,
                SettingsTest::longestFrame,
                SettingsTest::longestBelowSixteen,
                SettingsTest::pairAfterPair,
                SettingsTest::valueIsNoNumber,
                SettingsTest::otherNumbers,
                SettingsTest::ackIsSent,
                SettingsTest::firstThatHolds);
    }

    private static void away(String what, Talk talk, int code) {
        Check.same(what, talk.told() + " " + talk.away(), "AWAY 0 of 0: 0 " + code + " " + code);
    }

    private static void notOfStreamZero() {
        Check.of("Terms, SETTINGS", "not of stream 0: AWAY 1");
        for (int stream : new int[] {1, 2, 255}) {
            away("of " + stream, Talk.begun().frame(Talk.SETTINGS, 0, stream), 1);
            away("of " + stream + " with ACK", Talk.begun().frame(Talk.SETTINGS, Talk.ACK, stream), 1);
        }
    }

    private static void ackWithLength() {
        Check.of("Terms, SETTINGS", "with ACK: a length above 0: AWAY 6, else nothing");
        for (int length : new int[] {1, 2, 200}) {
            away("" + length, Talk.begun().frame(Talk.SETTINGS, Talk.ACK, 0, Talk.times(length, 4)), 6);
        }
    }

    private static void ackDoesNothing() {
        Check.of("Terms, SETTINGS", "a length above 0: AWAY 6, else nothing");
        Talk talk = Talk.withPages().ask(1, Talk.getting('a'));
        String before = talk.all();
        Check.same("all", talk.frame(Talk.SETTINGS, Talk.ACK, 0).all(), before);
    }

    private static void oddLength() {
        Check.of("Terms, SETTINGS", "an odd length: AWAY 6");
        for (int length : new int[] {1, 3, 5, 199}) {
            away("" + length, Talk.begun().settings(Talk.times(length, 6)), 6);
        }
        Talk talk = Talk.withPages().askOpen(1, Talk.getting('a')).settings(4, 50, 5, 20, 4);
        Check.same("its pairs are not taken", talk.stream(1, 0) + " " + talk.about(3), "40 64");
    }

    private static void noPairs() {
        Check.of("Terms, SETTINGS", "Then SETTINGS with ACK are sent");
        Talk talk = Talk.begun();
        String before = talk.state();
        talk.settings();
        Check.same("no pairs", talk.told() + " " + talk.state(), "SETTINGS 1 of 0: " + before);
        Talk most = Talk.begun().settings(Talk.times(200, 6));
        Check.same("100 pairs", most.told(), "SETTINGS 1 of 0:");
        Talk last = Talk.begun().settings(Talk.join(Talk.times(198, 6), new int[] {5, 33}));
        Check.same("the last of 100 pairs", last.told() + last.about(3), "SETTINGS 1 of 0:33");
    }

    private static void windowsOfOpenStreams() {
        Check.of("Terms, SETTINGS", "the windows of all open streams change by the value less the one before (40 at first)");
        Talk talk = Talk.withPages();
        for (int s = 1; s <= 7; s += 2) {
            talk.askOpen(s, Talk.getting('a'));
        }
        talk.widen(3, 5).settings(4, 41);
        Check.same("by 1", windows(talk), "41 46 41 41");
        talk.settings(4, 41);
        Check.same("by 0", windows(talk), "41 46 41 41");
        talk.settings(4, 30);
        Check.same("by -11", windows(talk), "30 35 30 30");
        talk.settings(4, 255);
        Check.same("by 225", windows(talk), "255 260 255 255");
        Check.same("the connection's is as it was", talk.about(2), 100);
        Talk same = Talk.withPages().askOpen(1, Talk.getting('a')).settings(4, 40);
        Check.same("40 first", same.stream(1, 0), 40);
    }

    private static String windows(Talk talk) {
        return talk.stream(1, 0) + " " + talk.stream(3, 0) + " " + talk.stream(5, 0) + " " + talk.stream(7, 0);
    }

    private static void windowsBelowZero() {
        Check.of("Terms, SETTINGS", "the windows of all open streams change by the value less the one before");
        Talk talk = Talk.withPages().ask(1, Talk.getting('a')).hushed();
        talk.settings(4, 0);
        Check.same("below 0", talk.told() + talk.streamText(1), "SETTINGS 1 of 0:-40 20 0 1");
        talk.settings(4, 40);
        Check.same("back to 0", talk.told() + talk.streamText(1), "SETTINGS 1 of 0:0 20 0 1");
        talk.settings(4, 41);
        Check.same("to 1, which is sent", talk.told(), "SETTINGS 1 of 0:; DATA 0 of 1: 1");
    }

    private static void newStreamsBeginWithIt() {
        Check.of("Terms, SETTINGS", "new ones begin with it");
        Talk talk = Talk.withPages().settings(4, 7).askOpen(1, Talk.getting('a')).settings(4, 9)
                .askOpen(3, Talk.getting('a'));
        Check.same("9 and 9", talk.stream(1, 0) + " " + talk.stream(3, 0), "9 9");
        talk.frame(Talk.RESET, 0, 1, 0).askOpen(5, Talk.getting('a'));
        Check.same("in the place of one that went", talk.stream(5, 0), 9);
    }

    private static void leastAndMostFirstWindow() {
        Check.of("Terms, SETTINGS", "new ones begin with it");
        Talk none = Talk.withPages().settings(4, 0).hushed().ask(1, Talk.getting('a'));
        Check.same("0", none.told() + " " + none.streamText(1), "HEADERS 4 of 1: 134 0 60 0 1");
        Talk most = Talk.withPages().settings(4, 255).hushed().ask(1, Talk.getting('a'));
        Check.same("255", most.told(), "HEADERS 4 of 1: 134; DATA 1 of 1: 1*60");
    }

    private static void windowsHaveNoMost() {
        Check.of("Terms, SETTINGS", "the windows of all open streams change by the value less the one before");
        Talk talk = Talk.withPages().askOpen(1, Talk.getting('a')).widen(1, 29960).settings(4, 255);
        Check.same("above 30000", talk.told() + talk.stream(1, 0), "SETTINGS 1 of 0:30215");
    }

    private static void longestFrame() {
        Check.of("Terms, SETTINGS", "the LONGEST frame of DATA is the value (64 at first)");
        Talk talk = Talk.withPages();
        Check.same("at first", talk.about(3), 64);
        for (int value : new int[] {16, 17, 64, 200, 201, 255, 16}) {
            talk.settings(5, value);
            Check.same("" + value, talk.told() + talk.about(3), "SETTINGS 1 of 0:" + value);
        }
        talk.ask(1, Talk.getting('a'));
        Check.same("DATA of at most 16", talk.told(),
                "HEADERS 4 of 1: 134; DATA 0 of 1: 1*16; DATA 0 of 1: 1*16; DATA 0 of 1: 1*8");
    }

    private static void longestBelowSixteen() {
        Check.of("Terms, SETTINGS", "below 16: AWAY 1");
        for (int value : new int[] {0, 1, 15}) {
            Talk talk = Talk.begun().settings(5, value);
            away("" + value, talk, 1);
            Check.same("after " + value, talk.about(3), 64);
        }
        Check.same("16", Talk.begun().settings(5, 16).away(), 0);
    }

    private static void pairAfterPair() {
        Check.of("Terms, SETTINGS", "One pair after the other");
        Talk talk = Talk.withPages().askOpen(1, Talk.getting('a')).settings(4, 0, 5, 20, 4, 33, 5, 70);
        Check.same("the last ones count", talk.told() + talk.stream(1, 0) + " " + talk.about(3), "SETTINGS 1 of 0:33 70");
        talk.settings(4, 50, 5, 15, 4, 60, 5, 80);
        Check.same("one that is against the rules", talk.told(), "AWAY 0 of 0: 1 1");
        Check.same("those before it hold, those behind it do not", talk.stream(1, 0) + " " + talk.about(3), "50 70");
    }

    private static void valueIsNoNumber() {
        Check.of("Terms, TYPES", "4 SETTINGS (pairs: a number and a value)");
        Talk talk = Talk.withPages().askOpen(1, Talk.getting('a')).settings(6, 4, 9, 5, 3, 4, 7, 5);
        Check.same("values 4 and 5", talk.told() + talk.stream(1, 0) + " " + talk.about(3), "SETTINGS 1 of 0:40 64");
        talk.settings(4, 5, 5, 16, 6, 6);
        Check.same("a window of 5, and 16", talk.told() + talk.stream(1, 0) + " " + talk.about(3), "SETTINGS 1 of 0:5 16");
    }

    private static void otherNumbers() {
        Check.of("Terms, SETTINGS", "others are ignored");
        Talk talk = Talk.withPages().askOpen(1, Talk.getting('a'));
        String before = talk.state() + " " + talk.streamText(1);
        for (int number = 0; number <= 255; number++) {
            if (number != 4 && number != 5) {
                talk.frame(Talk.SETTINGS, 0, 0, number, 0);
                talk.take(4);
            }
            if (talk.calls() > 480) {
                Check.same("up to " + number, talk.state() + " " + talk.streamText(1), before);
                talk = Talk.withPages().askOpen(1, Talk.getting('a'));
            }
        }
        Check.same("up to 255", talk.state() + " " + talk.streamText(1), before);
        talk.settings(3, 0, 6, 255, 4, 44);
        Check.same("those behind them hold", talk.stream(1, 0), 44);
    }

    private static void ackIsSent() {
        Check.of("Terms, SETTINGS", "Then SETTINGS with ACK are sent");
        Talk talk = Talk.withPages().ask(1, Talk.getting('a')).hushed().settings(4, 45);
        Check.same("before DATA", talk.told(), "SETTINGS 1 of 0:; DATA 0 of 1: 1*5");
        talk.frame(Talk.PING, Talk.ACK, 0, 4, 99, 5, 99).settings();
        Check.same("bytes of the frame before are no pairs", talk.told() + talk.streamText(1) + " " + talk.about(3),
                "SETTINGS 1 of 0:0 15 0 1 64");
    }

    private static void firstThatHolds() {
        Check.of("Terms, A FRAME", "the first that holds");
        away("an odd length, not of stream 0", Talk.begun().frame(Talk.SETTINGS, 0, 1, 4), 1);
        away("ACK and a length, not of stream 0", Talk.begun().frame(Talk.SETTINGS, Talk.ACK, 1, 4), 1);
        away("an odd length with a pair below 16", Talk.begun().settings(5, 1, 4), 6);
        away("ACK with a pair below 16", Talk.begun().frame(Talk.SETTINGS, Talk.ACK, 0, 5, 1), 6);
    }
}
