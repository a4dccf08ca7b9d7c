/** Promise 3: HEADERS that come, how streams are opened, refused and closed. */
public final class HeadersTest {
    public static void main(String[] args) {
        wrongStreams();
        padding();
        longBlocks();
        unreadBlocks();
        tooMany();
        noRequest();
        secondHeaders();
        lengthAtOnce();
        Check.end();
    }

    private static void expectAway(String what, Talk talk, String due) {
        Check.same(what, talk.told(), "AWAY 0 of 0: " + due);
    }

    private static void wrongStreams() {
        expectAway("stream 0", Talk.begun().ask(0, Talk.GET, Talk.ROOT), "0 1");
        expectAway("even", Talk.begun().ask(2, Talk.GET, Talk.ROOT), "0 1");

        Talk over = Talk.begun();
        over.ask(5, Talk.GET, Talk.ROOT);
        over.takeAll();
        expectAway("one that is over", over.ask(5, Talk.GET, Talk.ROOT), "5 5");

        Talk below = Talk.begun();
        below.ask(5, Talk.GET, Talk.ROOT);
        below.takeAll();
        expectAway("one below the highest", below.ask(3, Talk.GET, Talk.ROOT), "5 5");

        Talk closed = Talk.withPages();
        closed.ask(1, Talk.getting('a'));
        closed.takeAll();
        expectAway("its client's side is closed", closed.frame(Talk.HEADERS, 0, 1, 129), "1 5");

        Talk highest = Talk.withPages();
        highest.ask(255, Talk.getting('a'));
        Check.same("255", highest.told(), "HEADERS 4 of 255: 134; DATA 0 of 255: 1*40");
        Check.same("is the highest", highest.server.about(0), 255);
    }

    private static void padding() {
        int flags = Talk.DONE + Talk.END + Talk.PADDED;
        expectAway("PADDED without bytes", Talk.begun().frame(Talk.HEADERS, flags, 1), "0 1");
        expectAway("PADDED by 3 of 3", Talk.begun().frame(Talk.HEADERS, flags, 1, 3, 129, 131), "0 1");
        Talk over = Talk.begun();
        over.ask(1, Talk.GET, Talk.ROOT);
        over.takeAll();
        expectAway("before the stream is looked at", over.frame(Talk.HEADERS, flags, 1), "1 1");
        Talk talk = Talk.begun();
        talk.frame(Talk.HEADERS, flags, 1, 3, 129, 131, 16, 16, 16);
        Check.same("what is no padding", talk.told(), "HEADERS 5 of 1: 135");
        Check.same("is the block", talk.server.about(7), 2);
        talk.frame(Talk.HEADERS, flags, 3, 2, 129, 131);
        Check.same("padding alone: an empty block", talk.told(), "RESET 0 of 3: 1");
        Check.same("no bytes", talk.server.about(7), 0);
    }

    private static void longBlocks() {
        int[] hundred = Talk.join(new int[] {129, 131}, Talk.times(98, 132));
        Talk talk = Talk.begun();
        talk.ask(1, hundred);
        Check.same("100", talk.told(), "HEADERS 5 of 1: 135");
        Check.same("100 bytes", talk.server.about(7), 100);
        talk.frame(Talk.HEADERS, Talk.DONE + Talk.PADDED, 3, Talk.join(new int[] {1}, hundred, new int[] {0}));
        Check.same("100 and padding", talk.server.about(7), 100);
        expectAway("101", talk.ask(5, Talk.join(hundred, new int[] {132})), "3 9");
        Check.same("the piece does not count", talk.server.about(7), 0);

        Talk more = Talk.begun();
        more.frame(Talk.HEADERS, 0, 1, Talk.times(60, 132)).frame(Talk.MORE, 0, 1, Talk.times(40, 132));
        Check.same("60 and 40", more.server.about(7), 100);
        more.frame(Talk.MORE, 0, 1);
        Check.same("and none", more.told(), "");
        expectAway("and 1", more.frame(Talk.MORE, 0, 1, 132), "0 9");
        Check.same("the last piece does not count", more.server.about(7), 100);
    }

    private static void unreadBlocks() {
        Talk talk = Talk.begun();
        talk.frame(Talk.HEADERS, 0, 1, 128);
        Check.same("it is read when it is over", talk.server.away(), 0);
        expectAway("then", talk.frame(Talk.MORE, Talk.DONE, 1), "0 9");
        Check.same("its stream is not the highest", talk.server.about(0), 0);
    }

    private static void tooMany() {
        Talk talk = Talk.withPages();
        for (int k = 0; k < 4; k++) {
            talk.askOpen(1 + 2 * k, Talk.getting('a'));
        }
        Check.same("four are open", talk.server.about(1), 4);
        talk.askOpen(9, Talk.join(new int[] {129, 67, 2, '/', 'q'}));
        Check.same("a fifth", talk.told(), "RESET 0 of 9: 7");
        Check.same("it is the highest", talk.server.about(0), 9);
        Check.same("its block was read", talk.entryText(8), ":p=/q");
        Check.same("four are open still", talk.server.about(1), 4);
        talk.ask(11, 129);
        Check.same("a fifth that is no request", talk.told(), "RESET 0 of 11: 7");
        talk.frame(Talk.HEADERS, Talk.DONE + Talk.END, 3);
        Check.same("an open one goes on", talk.told(), "HEADERS 4 of 3: 134; DATA 0 of 3: 1*40");
        talk.frame(Talk.RESET, 0, 3, 0);
        talk.askOpen(13, Talk.getting('a'));
        Check.same("a fourth again", talk.told(), "");
        Check.same("is open", talk.server.stream(13, 0), 40);
    }

    private static void noRequest() {
        Talk talk = Talk.begun();
        talk.askOpen(7, 129);
        Check.same("no request", talk.told(), "RESET 0 of 7: 1");
        Check.same("it is the highest", talk.server.about(0), 7);
        Check.same("none is open", talk.server.about(1), 0);
        talk.ask(9);
        Check.same("an empty block", talk.told(), "RESET 0 of 9: 1");
        talk.ask(11, 131, 129, 132);
        Check.same("then a request", talk.told(), "HEADERS 5 of 11: 135");
    }

    private static void secondHeaders() {
        Talk talk = open("");
        talk.ask(1, 132);
        Check.same("with END it is answered", talk.told(), "HEADERS 5 of 1: 134");
        Check.same("and over", talk.server.about(1), 0);
        Check.same("empty", open("").ask(1).told(), "HEADERS 5 of 1: 134");
        Check.same("without END", open("").askOpen(1, 132).told(), "RESET 0 of 1: 1");
        Check.same("a name with :", open("").ask(1, 132, 134).told(), "RESET 0 of 1: 1");
        Check.same("a name : in front of others", open("").ask(1, 129, 132).told(), "RESET 0 of 1: 1");
        Check.same("names of other characters", open("").ask(1, Talk.field("A:9", "x")).told(),
                "HEADERS 5 of 1: 134");
        Check.same("a length there says nothing", open("").ask(1, Talk.field("length", "77")).told(),
                "HEADERS 5 of 1: 134");
        Check.same("it cannot be read", open("").ask(1, 128).told(), "AWAY 0 of 0: 1 9");
        Check.same("the length is wrong", open("2").ask(1).told(), "RESET 0 of 1: 1");
        Talk counted = open("2");
        counted.frame(Talk.DATA, 0, 1, 5, 5);
        counted.takeAll();
        Check.same("the length is right", counted.ask(1).told(), "HEADERS 5 of 1: 134");

        Talk entering = open("");
        entering.askOpen(1, Talk.entering("x", "y"));
        Check.same("it is read though it is refused", entering.entryText(8), "x=y");
        Check.same("open no more", entering.server.about(1), 0);

        Talk pieces = open("");
        pieces.frame(Talk.HEADERS, Talk.END, 1, 132).frame(Talk.MORE, Talk.DONE, 1, 132);
        Check.same("in pieces", pieces.told(), "HEADERS 5 of 1: 134");
        Talk highest = open("");
        highest.askOpen(5, Talk.getting('a')).ask(1);
        Check.same("the highest stays", highest.server.about(0), 5);
    }

    private static Talk open(String length) {
        Talk talk = Talk.withPages();
        int[] block = Talk.getting('e');
        talk.askOpen(1, length.isEmpty() ? block : Talk.join(block, Talk.field("length", length)));
        Check.same("open", talk.server.stream(1, 3), 0);
        return talk;
    }

    private static void lengthAtOnce() {
        Talk talk = Talk.withPages();
        talk.ask(1, Talk.join(Talk.getting('a'), Talk.field("length", "1")));
        Check.same("END, and a length of 1", talk.told(), "RESET 0 of 1: 1");
        talk.ask(3, Talk.join(Talk.getting('e'), Talk.field("length", "0")));
        Check.same("END, and a length of 0", talk.told(), "HEADERS 5 of 3: 134");
    }
}
