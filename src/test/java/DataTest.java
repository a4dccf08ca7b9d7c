/** Promise 3: the row DATA of 'Terms'. */
public final class DataTest {
    public static void main(String[] args) {
        Check.run(DataTest::streamZeroOrIdle,
                DataTest::tooFewBytesForPadding,
                DataTest::longerThanEighty,
                DataTest::windowForStreamZero,
                DataTest::noWindowForNoBytes,
                DataTest::notOpen,
                DataTest::clientsSideClosed,
                DataTest::longerThanFifty,
                DataTest::firstThatHolds,
                DataTest::bytesAreCounted,
                DataTest::endClosesClientsSide,
                DataTest::lengthFieldSaysAnother,
                DataTest::lengthFieldIsRight,
                DataTest::windowForTheStream);
    }

    /** Stream 3 is open and waits for DATA; its page is empty. */
    private static Talk open() {
        return Talk.withPages().askOpen(3, Talk.getting('e'));
    }

    private static Talk openWithLength(String length) {
        return Talk.withPages().askOpen(3, Talk.join(Talk.getting('e'), Talk.field("length", length)));
    }

    private static void away(String what, Talk talk, int code) {
        Check.same(what, talk.told() + " " + talk.away(), "AWAY 0 of 0: 3 " + code + " " + code);
    }

    private static void streamZeroOrIdle() {
        Check.of("Terms, DATA", "of stream 0 or an IDLE one: AWAY 1");
        for (int stream : new int[] {0, 2, 4, 5, 254, 255}) {
            away("of " + stream, open().frame(Talk.DATA, 0, stream, 1), 1);
            away("of " + stream + ", empty", open().frame(Talk.DATA, Talk.END, stream), 1);
        }
        Check.same("of 3", open().frame(Talk.DATA, 0, 3).away(), 0);
    }

    private static void tooFewBytesForPadding() {
        Check.of("Terms, DATA", "PADDED with too few bytes for its padding: AWAY 1");
        away("no bytes", open().frame(Talk.DATA, Talk.PADDED, 3), 1);
        away("1 of 1", open().frame(Talk.DATA, Talk.PADDED, 3, 1), 1);
        away("3 of 3", open().frame(Talk.DATA, Talk.PADDED, 3, 3, 0, 0), 1);
        away("255 of 40", open().frame(Talk.DATA, Talk.PADDED, 3, Talk.times(40, 255)), 1);
        Talk just = open().frame(Talk.DATA, Talk.PADDED, 3, 2, 0, 0);
        Check.same("2 of 3", just.told() + " " + just.stream(3, 2), "WINDOW 0 of 0: 0 3; WINDOW 0 of 3: 0 3 0");
        Talk none = open().frame(Talk.DATA, Talk.PADDED, 3, 0);
        Check.same("0 of 1", none.told() + " " + none.stream(3, 2), "WINDOW 0 of 0: 0 1; WINDOW 0 of 3: 0 1 0");
        Talk not = open().frame(Talk.DATA, 0, 3, 3, 0, 0);
        Check.same("not PADDED", not.stream(3, 2), 3);
    }

    private static void longerThanEighty() {
        Check.of("Terms, DATA", "longer than 80: AWAY 3");
        away("81", open().frame(Talk.DATA, 0, 3, Talk.times(81, 1)), 3);
        away("200", open().frame(Talk.DATA, Talk.END, 3, Talk.times(200, 1)), 3);
        away("81, padding among them", open().frame(Talk.DATA, Talk.PADDED, 3, Talk.times(81, 60)), 3);
        Check.same("80", open().frame(Talk.DATA, 0, 3, Talk.times(80, 1)).away(), 0);
    }

    private static void windowForStreamZero() {
        Check.of("Terms, DATA", "If its length is above 0, WINDOW by it is sent for stream 0");
        Check.same("1", open().frame(Talk.DATA, Talk.END, 3, 7).told(), "WINDOW 0 of 0: 0 1; HEADERS 5 of 3: 134");
        Check.same("50", open().frame(Talk.DATA, Talk.END, 3, Talk.times(50, 1)).told(),
                "WINDOW 0 of 0: 0 50; HEADERS 5 of 3: 134");
        Check.same("80, and RESET", open().frame(Talk.DATA, 0, 3, Talk.times(80, 1)).told(),
                "WINDOW 0 of 0: 0 80; RESET 0 of 3: 3");
        Check.same("padding counts", open().frame(Talk.DATA, Talk.END + Talk.PADDED, 3, 2, 0, 0).told(),
                "WINDOW 0 of 0: 0 3; HEADERS 5 of 3: 134");
        Check.same("its own window is as it was", open().frame(Talk.DATA, 0, 3, 7).about(2), 100);
    }

    private static void noWindowForNoBytes() {
        Check.of("Terms, DATA", "If its length is above 0");
        Check.same("END", open().frame(Talk.DATA, Talk.END, 3).told(), "HEADERS 5 of 3: 134");
        Check.same("no END", open().frame(Talk.DATA, 0, 3).told(), "");
        Check.same("RESET", open().frame(Talk.DATA, 0, 1).told(), "RESET 0 of 1: 5");
    }

    private static void notOpen() {
        Check.of("Terms, DATA", "The stream is not OPEN, or its client's side is CLOSED: RESET 5");
        Check.same("left out", open().frame(Talk.DATA, 0, 1, 9, 9).told(), "WINDOW 0 of 0: 0 2; RESET 0 of 1: 5");
        Talk refused = open().askOpen(5, Talk.GET).hushed();
        Check.same("no request", refused.frame(Talk.DATA, 0, 5, 9).told(), "WINDOW 0 of 0: 0 1; RESET 0 of 5: 5");
        Talk over = open().ask(5, Talk.getting('e')).hushed();
        Check.same("answered", over.frame(Talk.DATA, Talk.END, 5).told(), "RESET 0 of 5: 5");
        Talk reset = open().frame(Talk.RESET, 0, 3, 1);
        Check.same("after RESET", reset.frame(Talk.DATA, 0, 3).told(), "RESET 0 of 3: 5");
        reset.frame(Talk.DATA, 0, 3);
        Check.same("each time", reset.told() + reset.away(), "RESET 0 of 3: 50");
    }

    private static void clientsSideClosed() {
        Check.of("Terms, DATA", "or its client's side is CLOSED: RESET 5");
        Talk talk = Talk.withPages().ask(1, Talk.getting('a')).hushed();
        Check.same("20 are to be sent", talk.streamText(1), "0 20 0 1");
        talk.frame(Talk.DATA, Talk.END, 1, 9);
        Check.same("DATA for it", talk.told(), "WINDOW 0 of 0: 0 1; RESET 0 of 1: 5");
        Check.same("it is", talk.streamText(1), "not open");
        talk.widen(1, 50);
        Check.same("its body is not sent", talk.told() + talk.away(), "0");
    }

    private static void longerThanFifty() {
        Check.of("Terms, DATA", "Longer than 50: RESET 3");
        for (int length : new int[] {51, 80}) {
            Talk talk = open().frame(Talk.DATA, Talk.END, 3, Talk.times(length, 1));
            Check.same("" + length, talk.told() + " " + talk.streamText(3),
                    "WINDOW 0 of 0: 0 " + length + "; RESET 0 of 3: 3 not open");
        }
        Talk padded = open().frame(Talk.DATA, Talk.PADDED, 3, Talk.times(51, 40));
        Check.same("51, padding among them", padded.told(), "WINDOW 0 of 0: 0 51; RESET 0 of 3: 3");
        Talk fifty = open().frame(Talk.DATA, 0, 3, Talk.times(50, 1));
        Check.same("50", fifty.told() + " " + fifty.streamText(3),
                "WINDOW 0 of 0: 0 50; WINDOW 0 of 3: 0 50 40 0 50 0");
    }

    private static void firstThatHolds() {
        Check.of("Terms, A FRAME", "the first that holds");
        away("81 of an idle one", open().frame(Talk.DATA, 0, 5, Talk.times(81, 1)), 1);
        away("81, too few for its padding", open().frame(Talk.DATA, Talk.PADDED, 3, Talk.times(81, 81)), 1);
        away("too few for the padding of one that is not open", open().frame(Talk.DATA, Talk.PADDED, 1), 1);
        away("81 of one that is not open", open().frame(Talk.DATA, 0, 1, Talk.times(81, 1)), 3);
        Check.same("51 of one that is not open", open().frame(Talk.DATA, 0, 1, Talk.times(51, 1)).told(),
                "WINDOW 0 of 0: 0 51; RESET 0 of 1: 5");
        Check.same("51 with END, and another length", openWithLength("3").frame(Talk.DATA, Talk.END, 3,
                Talk.times(51, 1)).told(), "WINDOW 0 of 0: 0 51; RESET 0 of 3: 3");
    }

    private static void bytesAreCounted() {
        Check.of("Terms, DATA", "The bytes that are no padding are counted for the stream");
        Talk talk = open().frame(Talk.DATA, 0, 3, 1, 2, 3);
        Check.same("three", talk.stream(3, 2), 3);
        talk.frame(Talk.DATA, 0, 3);
        Check.same("and none", talk.stream(3, 2), 3);
        talk.frame(Talk.DATA, Talk.PADDED, 3, 2, 9, 0, 0);
        Check.same("and one without its padding", talk.stream(3, 2), 4);
        talk.frame(Talk.DATA, 0, 3, Talk.times(50, 0)).frame(Talk.DATA, 0, 3, Talk.times(50, 0));
        Check.same("more than 100 in all", talk.stream(3, 2), 104);
        talk.askOpen(5, Talk.getting('a')).frame(Talk.DATA, 0, 5, 8);
        Check.same("for each stream", talk.stream(3, 2) + " " + talk.stream(5, 2), "104 1");
        for (int k = 0; k < 4; k++) {
            talk.hushed().frame(Talk.DATA, 0, 3, Talk.times(50, 0));
        }
        Check.same("more than a byte holds", talk.stream(3, 2), 304);
    }

    private static void endClosesClientsSide() {
        Check.of("Terms, DATA", "with END its client's side is CLOSED");
        Talk talk = Talk.withPages().askOpen(1, Talk.getting('a')).frame(Talk.DATA, 0, 1, 9);
        Check.same("without END", talk.streamText(1), "40 0 1 0");
        talk.hushed().frame(Talk.DATA, Talk.END, 1, 9);
        Check.same("with END", talk.streamText(1), "0 20 2 1");
        Check.same("it is answered", talk.told(), "WINDOW 0 of 0: 0 1; HEADERS 4 of 1: 134; DATA 0 of 1: 1*40");
    }

    private static void lengthFieldSaysAnother() {
        Check.of("Terms, DATA", "if it has a LENGTH field that says another number: RESET 1");
        Check.same("one more", openWithLength("3").frame(Talk.DATA, Talk.END, 3, Talk.times(4, 0)).told(),
                "WINDOW 0 of 0: 0 4; RESET 0 of 3: 1");
        Check.same("one fewer", openWithLength("3").frame(Talk.DATA, Talk.END, 3, 0, 0).told(),
                "WINDOW 0 of 0: 0 2; RESET 0 of 3: 1");
        Check.same("none of 1", openWithLength("1").frame(Talk.DATA, Talk.END, 3).told(), "RESET 0 of 3: 1");
        Check.same("one of 0", openWithLength("0").frame(Talk.DATA, Talk.END, 3, 9).told(),
                "WINDOW 0 of 0: 0 1; RESET 0 of 3: 1");
        Check.same("padding is not counted", openWithLength("3").frame(Talk.DATA, Talk.END + Talk.PADDED, 3, 1, 9, 0)
                .told(), "WINDOW 0 of 0: 0 3; RESET 0 of 3: 1");
        Talk over = openWithLength("3").frame(Talk.DATA, Talk.END, 3);
        Check.same("it is open no more", over.streamText(3), "not open");
        Talk early = openWithLength("1").frame(Talk.DATA, 0, 3, 1, 2, 3);
        Check.same("too many without END", early.streamText(3), "40 0 3 0");
    }

    private static void lengthFieldIsRight() {
        Check.of("Terms, DATA", "else it is ANSWERED");
        Check.same("0", openWithLength("0").frame(Talk.DATA, Talk.END, 3).told(), "HEADERS 5 of 3: 134");
        Check.same("000", openWithLength("000").frame(Talk.DATA, Talk.END, 3).told(), "HEADERS 5 of 3: 134");
        Check.same("3", openWithLength("3").frame(Talk.DATA, Talk.END, 3, 0, 0, 0).told(),
                "WINDOW 0 of 0: 0 3; HEADERS 5 of 3: 134");
        Check.same("050", openWithLength("050").frame(Talk.DATA, Talk.END, 3, Talk.times(50, 0)).told(),
                "WINDOW 0 of 0: 0 50; HEADERS 5 of 3: 134");
        Talk sum = openWithLength("999");
        for (int k = 0; k < 19; k++) {
            sum.frame(Talk.DATA, 0, 3, Talk.times(50, 0)).hushed();
        }
        sum.frame(Talk.DATA, Talk.END + Talk.PADDED, 3, Talk.join(new int[] {0}, Talk.times(49, 0)));
        Check.same("999 in twenty frames", sum.told(), "WINDOW 0 of 0: 0 50; HEADERS 5 of 3: 134");
        Check.same("no such field", open().frame(Talk.DATA, Talk.END, 3, 1, 2).told(),
                "WINDOW 0 of 0: 0 2; HEADERS 5 of 3: 134");
    }

    private static void windowForTheStream() {
        Check.of("Terms, DATA", "Without END WINDOW by its length is sent for the stream, if that is above 0");
        Check.same("1", open().frame(Talk.DATA, 0, 3, 9).told(), "WINDOW 0 of 0: 0 1; WINDOW 0 of 3: 0 1");
        Check.same("50", open().frame(Talk.DATA, 0, 3, Talk.times(50, 1)).told(),
                "WINDOW 0 of 0: 0 50; WINDOW 0 of 3: 0 50");
        Check.same("padding counts", open().frame(Talk.DATA, Talk.PADDED, 3, 2, 0, 0).told(),
                "WINDOW 0 of 0: 0 3; WINDOW 0 of 3: 0 3");
        Check.same("0", open().frame(Talk.DATA, 0, 3).told(), "");
        Check.same("its own window is as it was", open().frame(Talk.DATA, 0, 3, 9).stream(3, 0), 40);
    }
}
