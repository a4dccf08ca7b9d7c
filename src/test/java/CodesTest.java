/** Promise 3: which streams are IDLE and OPEN, and what AWAY c and RESET c do, in 'Terms'. */
public final class CodesTest {
    public static void main(String[] args) {
        Check.run(CodesTest::idleIfEven,
                CodesTest::idleIfAboveTheHighest,
                CodesTest::streamZeroIsNotIdle,
                CodesTest::openFromItsHeadersOn,
                CodesTest::openUntilItIsOver,
                CodesTest::awayTellsTheHighestAndCode,
                CodesTest::bytesBehindAwayAreIgnored,
                CodesTest::restOfFeedBehindAwayIsIgnored,
                CodesTest::resetTellsStreamAndCode,
                CodesTest::resetEndsTheStream);
    }

    /** The code that WINDOW by 1 leads to: of an idle stream it is 1, of another one 0. */
    private static int codeOfWindow(int highest, int stream) {
        return Talk.withPages().ask(highest, Talk.getting('e')).widen(stream, 1).away();
    }

    private static void idleIfEven() {
        Check.of("Terms, IDLE", "A stream is IDLE if it is even (but 0)");
        for (int stream : new int[] {2, 4, 6, 8, 252, 254}) {
            Check.same(stream + ", the highest is 5", codeOfWindow(5, stream), 1);
            Check.same(stream + ", the highest is 255", codeOfWindow(255, stream), 1);
        }
    }

    private static void idleIfAboveTheHighest() {
        Check.of("Terms, IDLE", "or above the highest");
        Check.same("1 of 5", codeOfWindow(5, 1), 0);
        Check.same("3 of 5", codeOfWindow(5, 3), 0);
        Check.same("5 of 5", codeOfWindow(5, 5), 0);
        Check.same("7 of 5", codeOfWindow(5, 7), 1);
        Check.same("255 of 5", codeOfWindow(5, 255), 1);
        Check.same("255 of 253", codeOfWindow(253, 255), 1);
        Check.same("255 of 255", codeOfWindow(255, 255), 0);
        Check.same("1 of none", Talk.begun().widen(1, 1).away(), 1);
        Check.same("one that was refused is the highest", Talk.begun().askOpen(5).widen(5, 1).away(), 0);
        Check.same("one whose block is coming is not", Talk.begun().frame(Talk.HEADERS, 0, 5, 129).about(0), 0);
    }

    private static void streamZeroIsNotIdle() {
        Check.of("Terms, IDLE", "even (but 0)");
        Talk talk = Talk.begun().widen(0, 1);
        Check.same("WINDOW of stream 0", talk.told() + talk.away() + " " + talk.about(2), "0 101");
    }

    private static void openFromItsHeadersOn() {
        Check.of("Terms, OPEN", "OPEN from its HEADERS on until it is over");
        Talk talk = Talk.withPages();
        Check.same("before", talk.streamText(1), "not open");
        talk.frame(Talk.HEADERS, 0, 1, Talk.GET);
        Check.same("while its block comes", talk.streamText(1), "not open");
        talk.frame(Talk.MORE, Talk.DONE, 1, Talk.ROOT);
        Check.same("when its block is over", talk.streamText(1), "40 0 0 0");
    }

    private static void openUntilItIsOver() {
        Check.of("Terms, OPEN", "OPEN from its HEADERS on until it is over");
        Talk talk = Talk.withPages().ask(1, Talk.getting('a'));
        Check.same("40 of 60 are sent", talk.streamText(1), "0 20 0 1");
        talk.widen(1, 19);
        Check.same("59 are sent", talk.streamText(1), "0 1 0 1");
        talk.widen(1, 1);
        Check.same("60 are sent", talk.streamText(1) + " " + talk.about(0, 1), "not open 1 0");
        Check.same("answered without a body", talk.ask(3, Talk.getting('e')).streamText(3), "not open");
    }

    private static void awayTellsTheHighestAndCode() {
        Check.of("Terms, AWAY c", "AWAY c: AWAY with the highest stream and c is sent");
        Check.same("none so far", Talk.begun().frame(Talk.PING, 0, 0).told(), "AWAY 0 of 0: 0 6");
        Check.same("1", Talk.begun().askOpen(1, 129, 131).widen(0, 0).told(), "AWAY 0 of 0: 1 1");
        Check.same("255", Talk.begun().askOpen(255, 129, 131).widen(0, 65535).told(), "AWAY 0 of 0: 255 3");
        Check.same("one that was refused", Talk.begun().askOpen(9).hushed().askOpen(9).told(), "AWAY 0 of 0: 9 5");
        Check.same("not one whose block cannot be read", Talk.begun().askOpen(3, 129, 131).askOpen(9, 128).told(),
                "AWAY 0 of 0: 3 9");
    }

    private static void bytesBehindAwayAreIgnored() {
        Check.of("Terms, AWAY c", "and all bytes from then on are ignored");
        Talk talk = Talk.withPages().ask(1, Talk.getting('a')).askOpen(3, Talk.getting('b')).widen(0, 0);
        String before = talk.all();
        talk.widen(1, 50).settings(4, 99, 5, 20).ask(5, 129, 67, 2, '/', 'a').frame(Talk.DATA, 0, 3, 1, 2);
        talk.frame(Talk.RESET, 0, 1, 0).frame(Talk.PING, 0, 0).ping().bytes(255, 255, 255, 255).preface().settings();
        Check.same("all", talk.all(), before);
        Check.same("the code", talk.away(), 1);
        Talk preface = new Talk().hushed().bytes(81).hushed().preface().settings().ping();
        Check.same("behind a wrong preface", preface.told() + preface.away(), "1");
        Talk tooLong = Talk.begun().bytes(201, 0, 0, 0).hushed().bytes(Talk.times(201, 0)).ping();
        Check.same("behind a frame that is too long", tooLong.told() + tooLong.away(), "6");
    }

    private static void restOfFeedBehindAwayIsIgnored() {
        Check.of("Terms, AWAY c", "and all bytes from then on are ignored");
        Talk preface = new Talk().hushed();
        Check.same("feed", preface.feed(0x50510000, 4), true);
        Check.same("in the same call", preface.told(), "AWAY 0 of 0: 0 1");
        Talk within = Talk.begun().bytes(1, 3, 0, 1);
        within.feed(0x00000909, 4);
        Check.same("a frame behind it", within.told(), "AWAY 0 of 0: 0 1");
    }

    private static void resetTellsStreamAndCode() {
        Check.of("Terms, RESET c", "RESET c: RESET with c is sent for the stream");
        Check.same("1", Talk.begun().askOpen(255).told(), "RESET 0 of 255: 1");
        Check.same("3", Talk.begun().askOpen(1, 129, 131).widen(1, 65535).told(), "RESET 0 of 1: 3");
        Check.same("5", Talk.begun().askOpen(3, 129, 131).frame(Talk.DATA, 0, 1).told(), "RESET 0 of 1: 5");
        Talk full = Talk.begun();
        for (int s = 1; s <= 9; s += 2) {
            full.askOpen(s, 129, 131);
        }
        Check.same("7", full.told(), "RESET 0 of 9: 7");
    }

    private static void resetEndsTheStream() {
        Check.of("Terms, RESET c", "RESET with c is sent for the stream, which is open no more");
        Talk talk = Talk.withPages().ask(1, Talk.getting('a')).askOpen(3, Talk.getting('b')).hushed();
        talk.widen(1, 0);
        Check.same("1", talk.told() + " " + talk.streamText(1), "RESET 0 of 1: 1 not open");
        Check.same("3", talk.streamText(3) + " " + talk.about(0, 2), "40 0 0 0 3 1 60");
        Check.same("its body is not sent", talk.widen(0, 9).widen(1, 9).told(), "");
        Check.same("no AWAY", talk.away(), 0);
    }
}
