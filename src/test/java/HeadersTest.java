/** Promise 3: the row HEADERS of 'Terms': how streams are opened, refused and closed. */
public final class HeadersTest {
    private static final int PADDED_WHOLE = Talk.DONE + Talk.END + Talk.PADDED;
    /** A request of 100 bytes. */
    private static final int[] HUNDRED = Talk.join(new int[] {129, 131}, Talk.times(98, 132));

    public static void main(String[] args) {
        Check.run(HeadersTest::streamZeroOrEven,
                HeadersTest::tooFewBytesForPadding,
                HeadersTest::notAboveTheHighest,
                HeadersTest::clientsSideClosed,
                HeadersTest::oddAndAboveTheHighest,
                HeadersTest::paddingIsNoBlock,
                HeadersTest::longerThanHundred,
                HeadersTest::longerThanHundredByMore,
                HeadersTest::blockIsReadWhenOver,
                HeadersTest::blockCannotBeRead,
                HeadersTest::openAlreadyWithoutEnd,
                HeadersTest::openAlreadyWithColon,
                HeadersTest::openAlreadyGoesOn,
                HeadersTest::openAlreadyWithLengthField,
                HeadersTest::becomesTheHighest,
                HeadersTest::fourOthersAreOpen,
                HeadersTest::noRequest,
                HeadersTest::opens,
                HeadersTest::endClosesClientsSide,
                HeadersTest::firstThatHolds);
    }

    private static void away(String what, Talk talk, String due) {
        Check.same(what, talk.told() + " " + talk.away(), "AWAY 0 of 0: " + due + due.substring(due.indexOf(' ')));
    }

    /** Stream 1 is open and waits for DATA; its page is empty. */
    private static Talk open(int[]... more) {
        return Talk.withPages().askOpen(1, Talk.join(Talk.getting('e'), Talk.join(more)));
    }

    private static void streamZeroOrEven() {
        Check.of("Terms, HEADERS", "of stream 0 or an even one: AWAY 1");
        for (int stream : new int[] {0, 2, 4, 254}) {
            away("of " + stream, Talk.begun().ask(stream, Talk.GET, Talk.ROOT), "0 1");
        }
        away("an even one below the highest", Talk.begun().ask(5, Talk.GET, Talk.ROOT).hushed()
                .ask(4, Talk.GET, Talk.ROOT), "5 1");
    }

    private static void tooFewBytesForPadding() {
        Check.of("Terms, HEADERS", "PADDED with too few bytes: AWAY 1");
        away("no bytes", Talk.begun().frame(Talk.HEADERS, PADDED_WHOLE, 1), "0 1");
        away("1 of 1", Talk.begun().frame(Talk.HEADERS, PADDED_WHOLE, 1, 1), "0 1");
        away("3 of 3", Talk.begun().frame(Talk.HEADERS, PADDED_WHOLE, 1, 3, 129, 131), "0 1");
        away("255 of 200", Talk.begun().frame(Talk.HEADERS, PADDED_WHOLE, 1, Talk.times(200, 255)), "0 1");
        away("without DONE", Talk.begun().frame(Talk.HEADERS, Talk.PADDED, 1, 1), "0 1");
        Check.same("2 of 3", Talk.begun().frame(Talk.HEADERS, PADDED_WHOLE, 1, 2, 129, 131).told(), "RESET 0 of 1: 1");
    }

    private static void notAboveTheHighest() {
        Check.of("Terms, HEADERS", "of a stream that is not above the highest so far, and not OPEN");
        away("left out", Talk.begun().ask(5, 129, 131).hushed().ask(3, 129, 131), "5 5");
        away("over", Talk.begun().ask(5, 129, 131).hushed().ask(5, 129, 131), "5 5");
        away("no request", Talk.begun().ask(5).hushed().ask(5, 129, 131), "5 5");
        away("after RESET", open().frame(Talk.RESET, 0, 1, 0).ask(1), "1 5");
        away("1 behind 255", Talk.begun().ask(255, 129, 131).hushed().ask(1, 129, 131), "255 5");
        Talk full = Talk.withPages();
        for (int s = 1; s <= 9; s += 2) {
            full.askOpen(s, Talk.getting('a'));
        }
        away("refused", full.hushed().askOpen(9, Talk.getting('a')), "9 5");
    }

    private static void clientsSideClosed() {
        Check.of("Terms, HEADERS", "or its client's side is CLOSED: AWAY 5");
        away("with END", Talk.withPages().ask(1, Talk.getting('a')).hushed().ask(1), "1 5");
        away("at once, without DONE", Talk.withPages().ask(1, Talk.getting('a')).hushed()
                .frame(Talk.HEADERS, 0, 1, 132), "1 5");
        away("closed by DATA", Talk.withPages().askOpen(1, Talk.getting('a')).frame(Talk.DATA, Talk.END, 1).hushed()
                .ask(1), "1 5");
    }

    private static void oddAndAboveTheHighest() {
        Check.of("Terms, HEADERS", "of a stream that is not above the highest so far");
        Talk talk = Talk.begun();
        for (int stream : new int[] {1, 3, 9, 253, 255}) {
            talk.ask(stream, 129, 131);
            Check.same("" + stream, talk.told() + " " + talk.about(0), "HEADERS 5 of " + stream + ": 135 " + stream);
        }
    }

    private static void paddingIsNoBlock() {
        Check.of("Terms, HEADERS", "What is no padding begins a BLOCK");
        Talk talk = Talk.begun();
        talk.frame(Talk.HEADERS, PADDED_WHOLE, 1, 3, 129, 131, 16, 16, 16);
        Check.same("two bytes", talk.told() + " " + talk.about(7), "HEADERS 5 of 1: 135 2");
        talk.frame(Talk.HEADERS, PADDED_WHOLE, 3, 2, 129, 131);
        Check.same("padding alone", talk.told() + " " + talk.about(7), "RESET 0 of 3: 1 0");
        talk.frame(Talk.HEADERS, Talk.PADDED + Talk.END, 5, 1, 129, 0).frame(Talk.MORE, Talk.DONE, 5, 131);
        Check.same("a block begins anew, MORE goes on", talk.told() + " " + talk.about(7), "HEADERS 5 of 5: 135 2");
    }

    private static void longerThanHundred() {
        Check.of("Terms, HEADERS", "A block longer than 100: AWAY 9");
        Check.same("100", Talk.begun().ask(1, HUNDRED).told(), "HEADERS 5 of 1: 135");
        away("101", Talk.begun().ask(1, Talk.join(HUNDRED, new int[] {132})), "0 9");
        away("101 without DONE", Talk.begun().frame(Talk.HEADERS, 0, 1, Talk.times(101, 132)), "0 9");
        away("200", Talk.begun().ask(1, Talk.times(200, 132)), "0 9");
        Check.same("100 and padding", Talk.begun().frame(Talk.HEADERS, PADDED_WHOLE, 1,
                Talk.join(new int[] {99}, HUNDRED, Talk.times(99, 0))).told(), "HEADERS 5 of 1: 135");
        away("101 and padding", Talk.begun().frame(Talk.HEADERS, PADDED_WHOLE, 1,
                Talk.join(new int[] {98}, HUNDRED, Talk.times(99, 132))), "0 9");
    }

    private static void longerThanHundredByMore() {
        Check.of("Terms, HEADERS", "A block longer than 100: AWAY 9");
        Talk talk = Talk.begun();
        talk.frame(Talk.HEADERS, Talk.END, 1, 129, 131).frame(Talk.MORE, 0, 1, Talk.times(98, 132))
                .frame(Talk.MORE, 0, 1);
        Check.same("2 and 98 and 0", talk.told() + talk.away(), "0");
        Check.same("and 0 with DONE", talk.frame(Talk.MORE, Talk.DONE, 1).told(), "HEADERS 5 of 1: 135");
        away("2 and 98 and 1", Talk.begun().frame(Talk.HEADERS, 0, 1, 129, 131)
                .frame(Talk.MORE, 0, 1, Talk.times(98, 132)).frame(Talk.MORE, 0, 1, 132), "0 9");
        away("1 and 100", Talk.begun().frame(Talk.HEADERS, 0, 1, 129)
                .frame(Talk.MORE, Talk.DONE, 1, Talk.times(100, 132)), "0 9");
    }

    private static void blockIsReadWhenOver() {
        Check.of("Terms, HEADERS", "With DONE the block is over");
        Talk talk = Talk.begun();
        talk.frame(Talk.HEADERS, 0, 1, Talk.entering("x", "y"));
        Check.same("without DONE", talk.state(), "0 0 100 64 24 0 0 5");
        talk.frame(Talk.MORE, Talk.DONE, 1);
        Check.same("with DONE", talk.state(), "1 0 100 64 24 1 4 5");
        Talk bad = Talk.begun().frame(Talk.HEADERS, 0, 1, 128);
        Check.same("one that cannot be read, without DONE", bad.away(), 0);
        away("with DONE", bad.frame(Talk.MORE, Talk.DONE, 1), "0 9");
    }

    private static void blockCannotBeRead() {
        Check.of("Terms, HEADERS", "it is read (below; AWAY 9 if it cannot be)");
        Talk talk = Talk.begun().ask(7, 129, 131, 128);
        away("of a new stream, which is not the highest", talk, "0 9");
        Check.same("about", talk.about(0, 1), "0 0");
        Talk opened = open().ask(1, 128);
        away("of an open one", opened, "1 9");
        Check.same("it stays open", opened.streamText(1), "40 0 0 0");
    }

    private static void openAlreadyWithoutEnd() {
        Check.of("Terms, HEADERS", "Of a stream that is OPEN already: without END (of HEADERS): RESET 1");
        Talk talk = open().askOpen(1, 132);
        Check.same("without END", talk.told() + " " + talk.streamText(1), "RESET 0 of 1: 1 not open");
        Check.same("empty", open().askOpen(1).told(), "RESET 0 of 1: 1");
        Check.same("END of MORE", open().frame(Talk.HEADERS, 0, 1).frame(Talk.MORE, Talk.DONE + Talk.END, 1).told(),
                "RESET 0 of 1: 1");
        Talk read = open().askOpen(1, Talk.entering("x", "y"));
        Check.same("its block was read", read.came(), "x=y");
    }

    private static void openAlreadyWithColon() {
        Check.of("Terms, HEADERS", "a field's name begins with : : RESET 1");
        for (int first = 129; first <= 135; first++) {
            boolean colon = first != 132 && first != 133;
            Check.same("entry " + (first - 128), open().ask(1, first).told(),
                    colon ? "RESET 0 of 1: 1" : "HEADERS 5 of 1: 134");
        }
        Check.same("the first of two", open().ask(1, 129, 132).told(), "RESET 0 of 1: 1");
        Check.same("the last of two", open().ask(1, 132, 129).told(), "RESET 0 of 1: 1");
        Check.same(": alone", open().ask(1, Talk.field(":", "")).told(), "RESET 0 of 1: 1");
        Check.same(": behind a letter", open().ask(1, Talk.field("a:", "")).told(), "HEADERS 5 of 1: 134");
        Check.same(": in a value", open().ask(1, Talk.field("a", ":")).told(), "HEADERS 5 of 1: 134");
        Check.same("open no more", open().ask(1, 129).streamText(1), "not open");
    }

    private static void openAlreadyGoesOn() {
        Check.of("Terms, HEADERS", "otherwise it goes on as DATA with END would that has no bytes");
        Check.same("a field", open().ask(1, 132).told(), "HEADERS 5 of 1: 134");
        Check.same("empty", open().ask(1).told(), "HEADERS 5 of 1: 134");
        Check.same("names of other characters", open().ask(1, Talk.field("A-9", "x")).told(), "HEADERS 5 of 1: 134");
        Check.same("in pieces", open().frame(Talk.HEADERS, Talk.END, 1, 132).frame(Talk.MORE, Talk.DONE, 1, 132).told(),
                "HEADERS 5 of 1: 134");
        Talk body = Talk.withPages().askOpen(1, Talk.getting('a')).frame(Talk.DATA, 0, 1, 9).hushed().ask(1, 132);
        Check.same("a body", body.told() + " " + body.streamText(1),
                "HEADERS 4 of 1: 134; DATA 0 of 1: 1*40 0 20 1 1");
        Talk lower = open().askOpen(5, Talk.getting('a')).ask(1);
        Check.same("the highest stays", lower.told() + " " + lower.about(0, 1), "HEADERS 5 of 1: 134 5 1");
    }

    private static void openAlreadyWithLengthField() {
        Check.of("Terms, HEADERS", "otherwise it goes on as DATA with END would that has no bytes");
        int[] two = Talk.field("length", "2");
        Check.same("2 said, none came", open(two).ask(1).told(), "RESET 0 of 1: 1");
        Check.same("2 said, 2 came", open(two).frame(Talk.DATA, 0, 1, 5, 5).hushed().ask(1).told(),
                "HEADERS 5 of 1: 134");
        Check.same("2 said, 3 came", open(two).frame(Talk.DATA, 0, 1, 5, 5, 5).hushed().ask(1).told(),
                "RESET 0 of 1: 1");
        Check.same("said there alone, it says nothing", open().ask(1, two).told(), "HEADERS 5 of 1: 134");
    }

    private static void becomesTheHighest() {
        Check.of("Terms, HEADERS", "Of a new one: it is the highest now");
        Talk talk = Talk.begun().frame(Talk.HEADERS, 0, 9, 129);
        Check.same("before its block is over", talk.about(0), 0);
        Check.same("then", talk.frame(Talk.MORE, Talk.DONE, 9, 131).about(0), 9);
        Check.same("though it is no request", Talk.begun().askOpen(7).about(0), 7);
        Talk full = Talk.begun();
        for (int s = 1; s <= 9; s += 2) {
            full.askOpen(s, 129, 131);
        }
        Check.same("though 4 others are open", full.about(0), 9);
        Check.same("1", Talk.begun().askOpen(1, 129, 131).about(0), 1);
        Check.same("255", Talk.begun().askOpen(255, 129, 131).about(0), 255);
    }

    private static void fourOthersAreOpen() {
        Check.of("Terms, HEADERS", "4 others are OPEN: RESET 7");
        Talk talk = Talk.withPages();
        for (int s = 1; s <= 7; s += 2) {
            talk.askOpen(s, Talk.getting('a'));
            Check.same("stream " + s, talk.told() + talk.streamText(s), "40 0 0 0");
        }
        talk.askOpen(9, 129, 67, 2, '/', 'q');
        Check.same("a fifth", talk.told() + " " + talk.about(0, 1), "RESET 0 of 9: 7 9 4");
        Check.same("its block was read", talk.came(), ":p=/q");
        Check.same("with END", talk.ask(11, Talk.getting('e')).told(), "RESET 0 of 11: 7");
        talk.frame(Talk.RESET, 0, 3, 0).askOpen(13, Talk.getting('a'));
        Check.same("a fourth again", talk.told() + talk.streamText(13), "40 0 0 0");
        Check.same("and a fifth", talk.askOpen(15, Talk.getting('a')).told(), "RESET 0 of 15: 7");
        talk.frame(Talk.HEADERS, Talk.DONE + Talk.END, 5);
        Check.same("those that are open go on", talk.told(), "HEADERS 4 of 5: 134; DATA 0 of 5: 1*40");
    }

    private static void noRequest() {
        Check.of("Terms, HEADERS", "no REQUEST: RESET 1");
        Talk talk = Talk.begun().askOpen(7, 129);
        Check.same("no path", talk.told() + " " + talk.about(0, 1), "RESET 0 of 7: 1 7 0");
        Check.same("an empty block", talk.ask(9).told(), "RESET 0 of 9: 1");
        Check.same("then a request", talk.ask(11, 131, 129).told(), "HEADERS 5 of 11: 135");
    }

    private static void opens() {
        Check.of("Terms, HEADERS", "Otherwise it is OPEN");
        Talk talk = Talk.begun().askOpen(1, 129, 131);
        Check.same("open", talk.told() + talk.about(0, 1) + " | " + talk.streamText(1), "1 1 | 40 0 0 0");
    }

    private static void endClosesClientsSide() {
        Check.of("Terms, HEADERS", "with END its client's side is CLOSED: it goes on likewise");
        Talk talk = Talk.withPages().ask(1, Talk.getting('a'));
        Check.same("closed", talk.streamText(1), "0 20 0 1");
        Check.same("answered", talk.told(), "HEADERS 4 of 1: 134; DATA 0 of 1: 1*40");
        Check.same("a length of 1", Talk.withPages().ask(1, Talk.join(Talk.getting('a'), Talk.field("length", "1"))).told(),
                "RESET 0 of 1: 1");
        Check.same("a length of 0", Talk.withPages().ask(1, Talk.join(Talk.getting('e'), Talk.field("length", "0"))).told(),
                "HEADERS 5 of 1: 134");
    }

    private static void firstThatHolds() {
        Check.of("Terms, A FRAME", "the first that holds");
        away("padding, of one that is over", Talk.begun().ask(1, 129, 131).hushed()
                .frame(Talk.HEADERS, PADDED_WHOLE, 1), "1 1");
        away("101 bytes of one that is over", Talk.begun().ask(1, 129, 131).hushed()
                .ask(1, Talk.times(101, 132)), "1 5");
        away("101 bytes of an even one", Talk.begun().ask(2, Talk.times(101, 132)), "0 1");
        away("101 bytes that cannot be read", Talk.begun().ask(1, Talk.times(101, 128)), "0 9");
        Talk full = Talk.withPages();
        for (int s = 1; s <= 7; s += 2) {
            full.askOpen(s, Talk.getting('a'));
        }
        Check.same("a fifth that is no request", full.ask(9, 129).told(), "RESET 0 of 9: 7");
        away("a fifth that cannot be read", full.ask(11, 128), "9 9");
        away("an open one, without END, that cannot be read", open().askOpen(1, 129, 128), "1 9");
    }
}
