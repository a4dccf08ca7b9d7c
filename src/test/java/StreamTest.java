/** Promise 10: stream. */
public final class StreamTest {
    public static void main(String[] args) {
        Check.run(StreamTest::itsWindow,
                StreamTest::bytesToBeSent,
                StreamTest::bytesCounted,
                StreamTest::clientsSide,
                StreamTest::fourAtOnce,
                StreamTest::nothingOfTheOneBefore,
                StreamTest::notOpen,
                StreamTest::noSuchStream,
                StreamTest::anotherWhat);
    }

    private static void itsWindow() {
        Check.of("Promise 10", "its window (what 0)");
        Talk talk = Talk.withPages().askOpen(1, Talk.getting('a'));
        Check.same("at first", talk.stream(1, 0), 40);
        Check.same("to 30000", talk.widen(1, 29960).stream(1, 0), 30000);
        Talk sent = Talk.withPages().ask(1, Talk.getting('a'));
        Check.same("40 are sent", sent.stream(1, 0), 0);
        Check.same("below 0", sent.settings(4, 0).stream(1, 0), -40);
    }

    private static void bytesToBeSent() {
        Check.of("Promise 10", "the bytes that are still to be sent (1)");
        Talk talk = Talk.withPages().settings(4, 0).askOpen(1, Talk.getting('a'));
        Check.same("before it is answered", talk.stream(1, 1), 0);
        Check.same("the most", talk.ask(1).stream(1, 1), 60);
        Check.same("the least", talk.widen(1, 59).stream(1, 1), 1);
    }

    private static void bytesCounted() {
        Check.of("Promise 10", "the bytes that were counted (2)");
        Talk talk = Talk.withPages().askOpen(1, Talk.getting('a'));
        Check.same("none", talk.stream(1, 2), 0);
        Check.same("3 without padding", talk.frame(Talk.DATA, Talk.PADDED, 1, 2, 1, 1, 1, 0, 0).stream(1, 2), 3);
        Check.same("50 more", talk.frame(Talk.DATA, Talk.END, 1, Talk.times(50, 0)).stream(1, 2), 53);
    }

    private static void clientsSide() {
        Check.of("Promise 10", "whether its client's side is closed (3; 1 or 0)");
        Talk talk = Talk.withPages().askOpen(1, Talk.getting('a'));
        Check.same("open", talk.stream(1, 3), 0);
        Check.same("open still", talk.frame(Talk.DATA, 0, 1, 9).stream(1, 3), 0);
        Check.same("closed by DATA", talk.frame(Talk.DATA, Talk.END, 1).stream(1, 3), 1);
        Check.same("closed by HEADERS", talk.ask(3, Talk.getting('b')).stream(3, 3), 1);
    }

    private static void fourAtOnce() {
        Check.of("Promise 10", "Of open stream s");
        Talk talk = Talk.withPages();
        for (int k = 0; k < 4; k++) {
            talk.askOpen(253 - 6 + 2 * k, Talk.getting('a')).frame(Talk.DATA, 0, 253 - 6 + 2 * k, Talk.times(k, 0));
        }
        talk.widen(253, 9).ask(249);
        Check.same("247", talk.streamText(247), "40 0 0 0");
        Check.same("249", talk.streamText(249), "0 20 1 1");
        Check.same("251", talk.streamText(251), "40 0 2 0");
        Check.same("253", talk.streamText(253), "49 0 3 0");
    }

    private static void nothingOfTheOneBefore() {
        Check.of("Promise 10", "Of open stream s");
        Talk talk = Talk.withPages().askOpen(1, Talk.join(Talk.getting('a'), Talk.field("length", "2")))
                .frame(Talk.DATA, 0, 1, 7, 7).widen(1, 3).ask(1).frame(Talk.RESET, 0, 1, 0);
        talk.askOpen(3, Talk.getting('e'));
        Check.same("a new one in its place", talk.streamText(3), "40 0 0 0");
        Check.same("without its length field", talk.hushed().ask(3).told(), "HEADERS 5 of 3: 134");
    }

    private static void notOpen() {
        Check.of("Promise 10", "NoSuchElementException when it is not open");
        Talk talk = Talk.withPages().ask(3, Talk.getting('a'));
        Check.throwsNoSuch("left out", () -> talk.stream(1, 0));
        Check.throwsNoSuch("idle", () -> talk.stream(5, 0));
        talk.ask(5);
        Check.throwsNoSuch("no request", () -> talk.stream(5, 0));
        talk.ask(7, Talk.getting('e'));
        Check.throwsNoSuch("answered", () -> talk.stream(7, 0));
        talk.widen(3, 20);
        Check.throwsNoSuch("sent", () -> talk.stream(3, 0));
        talk.askOpen(9, Talk.getting('a')).frame(Talk.RESET, 0, 9, 0);
        Check.throwsNoSuch("after RESET", () -> talk.stream(9, 0));
        talk.frame(Talk.HEADERS, 0, 11, 129);
        Check.throwsNoSuch("its block is coming", () -> talk.stream(11, 0));
    }

    private static void noSuchStream() {
        Check.of("Promise 10", "NoSuchElementException when it is not open");
        Talk talk = Talk.withPages().askOpen(1, Talk.getting('a'));
        for (int s : new int[] {0, 2, -1, 257, 256, 1 + (1 << 16), Integer.MIN_VALUE, Integer.MIN_VALUE + 1,
            Integer.MAX_VALUE}) {
            for (int what = 0; what < 4; what++) {
                int asked = what;
                Check.throwsNoSuch("stream " + s + ", what " + what, () -> talk.stream(s, asked));
            }
        }
        Talk none = new Talk();
        Check.throwsNoSuch("0 of none", () -> none.stream(0, 0));
    }

    private static void anotherWhat() {
        Check.of("Promise 10", "or for another what");
        Talk talk = Talk.withPages().askOpen(1, Talk.getting('a'));
        for (int what : new int[] {-1, 4, 5, 256, Integer.MIN_VALUE, Integer.MAX_VALUE}) {
            Check.throwsNoSuch("what " + what, () -> talk.stream(1, what));
            Check.throwsNoSuch("what " + what + " of one that is not open", () -> talk.stream(3, what));
        }
        Check.same("it is as it was", talk.streamText(1), "40 0 0 0");
    }
}
