/** Promise 3: the row WINDOW of 'Terms'. */
public final class WindowTest {
    private static final int MOST = 30000;

    public static void main(String[] args) {
        Check.run(WindowTest::wrongLength,
                WindowTest::idleStream,
                WindowTest::connectionByZero,
                WindowTest::connectionAboveMost,
                WindowTest::connectionGrows,
                WindowTest::streamByZero,
                WindowTest::streamAboveMost,
                WindowTest::streamGrows,
                WindowTest::othersDoNothing,
                WindowTest::firstThatHolds);
    }

    /** Streams 3 and 7 are open and wait for DATA. */
    private static Talk open() {
        return Talk.withPages().askOpen(3, Talk.getting('a')).askOpen(7, Talk.getting('b'));
    }

    private static void away(String what, Talk talk, int code) {
        Check.same(what, talk.told() + " " + talk.away(), "AWAY 0 of 0: 7 " + code + " " + code);
    }

    private static void wrongLength() {
        Check.of("Terms, WINDOW", "a length other than 2: AWAY 6");
        for (int stream : new int[] {0, 1, 3}) {
            for (int length : new int[] {0, 1, 3, 4, 200}) {
                away(length + " of " + stream, open().frame(Talk.WINDOW, 0, stream, Talk.times(length, 1)), 6);
            }
        }
    }

    private static void idleStream() {
        Check.of("Terms, WINDOW", "of an IDLE stream: AWAY 1");
        for (int stream : new int[] {2, 6, 8, 9, 255}) {
            away("of " + stream, open().widen(stream, 1), 1);
            away("of " + stream + " by 0", open().widen(stream, 0), 1);
            away("of " + stream + " by 65535", open().widen(stream, 65535), 1);
        }
    }

    private static void connectionByZero() {
        Check.of("Terms, WINDOW", "Of stream 0: by 0: AWAY 1");
        Talk talk = open().widen(0, 0);
        away("by 0", talk, 1);
        Check.same("it is as it was", talk.about(2), 100);
    }

    private static void connectionAboveMost() {
        Check.of("Terms, WINDOW", "its window would be above 30000: AWAY 3");
        for (int by : new int[] {MOST - 99, MOST, 32767, 32768, 65535}) {
            Talk talk = open().widen(0, by);
            away("by " + by, talk, 3);
            Check.same("it is as it was", talk.about(2), 100);
        }
        Talk full = open().widen(0, MOST - 100);
        Check.same("to 30000", full.told() + full.about(2), "30000");
        full.widen(0, 1);
        away("then by 1", full, 3);
        Check.same("it stays", full.about(2), MOST);
    }

    private static void connectionGrows() {
        Check.of("Terms, WINDOW", "else it is so much more");
        Talk talk = open().widen(0, 1);
        Check.same("by 1", talk.told() + talk.about(2), "101");
        talk.widen(0, 256).widen(0, 255);
        Check.same("by 256 and 255", talk.told() + talk.about(2), "612");
        Check.same("the streams' are as they were", talk.stream(3, 0) + " " + talk.stream(7, 0), "40 40");
        Talk empty = Talk.withPages().settings(4, 255).ask(1, Talk.getting('a')).ask(3, Talk.getting('b')).hushed();
        Check.same("it is used up", empty.about(2), 0);
        empty.widen(0, 7);
        Check.same("from 0 by 7, which are sent", empty.told() + " " + empty.about(2), "DATA 0 of 3: 2*7 0");
    }

    private static void streamByZero() {
        Check.of("Terms, WINDOW", "Of one that is OPEN: likewise with RESET");
        Talk talk = open().widen(3, 0);
        Check.same("by 0", talk.told() + " " + talk.away(), "RESET 0 of 3: 1 0");
        Check.same("it is", talk.streamText(3), "not open");
        Check.same("the other", talk.streamText(7), "40 0 0 0");
    }

    private static void streamAboveMost() {
        Check.of("Terms, WINDOW", "Of one that is OPEN: likewise with RESET");
        for (int by : new int[] {MOST - 39, MOST, 32768, 65535}) {
            Talk talk = open().widen(3, by);
            Check.same("by " + by, talk.told() + " " + talk.away(), "RESET 0 of 3: 3 0");
            Check.same("it is", talk.streamText(3), "not open");
        }
        Talk full = open().widen(3, MOST - 40);
        Check.same("to 30000", full.told() + full.stream(3, 0), "30000");
        Check.same("then by 1", full.widen(3, 1).told(), "RESET 0 of 3: 3");
        Talk below = Talk.withPages().ask(1, Talk.getting('a')).settings(4, 0).hushed();
        below.widen(0, MOST - 60);
        below.widen(1, MOST + 40);
        Check.same("from -40 to 30000", below.told() + " " + below.about(1), "DATA 1 of 1: 1*20 0");
    }

    private static void streamGrows() {
        Check.of("Terms, WINDOW", "Of one that is OPEN: likewise with RESET");
        Talk talk = open().widen(3, 1).widen(7, 258);
        Check.same("by 1 and 258", talk.told() + talk.stream(3, 0) + " " + talk.stream(7, 0), "41 298");
        Check.same("the connection's is as it was", talk.about(2), 100);
        Talk sending = Talk.withPages().ask(1, Talk.getting('a')).hushed();
        Check.same("from 0 by 7", sending.widen(1, 7).told(), "DATA 0 of 1: 1*7");
        sending.settings(4, 10).hushed().widen(1, 30);
        Check.same("from -30 to 0", sending.told() + sending.streamText(1), "0 13 0 1");
        Check.same("to 1", sending.widen(1, 1).told(), "DATA 0 of 1: 1");
    }

    private static void othersDoNothing() {
        Check.of("Terms, WINDOW", "Of others: nothing");
        Talk talk = open().frame(Talk.RESET, 0, 3, 0).ask(9, Talk.getting('e')).hushed();
        String before = talk.all();
        for (int by : new int[] {0, 1, 65535}) {
            talk.widen(1, by).widen(3, by).widen(9, by);
        }
        Check.same("left out, closed and answered", talk.all(), before);
    }

    private static void firstThatHolds() {
        Check.of("Terms, A FRAME", "the first that holds");
        away("length 1 of an idle one", open().frame(Talk.WINDOW, 0, 9, 1), 6);
        away("length 3 of an even one", open().frame(Talk.WINDOW, 0, 2, 0, 0, 1), 6);
    }
}
