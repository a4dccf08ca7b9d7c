/** Promise 3: DATA that come. */
public final class DataTest {
    public static void main(String[] args) {
        wrongStreams();
        lengths();
        padding();
        counting();
        lengthField();
        Check.end();
    }

    private static Talk open() {
        Talk talk = Talk.withPages();
        talk.askOpen(1, Talk.getting('e'));
        Check.same("it is open", talk.server.stream(1, 3), 0);
        return talk;
    }

    private static void wrongStreams() {
        expectAway("stream 0", 0, 0, 1);
        expectAway("above the highest", 0, 3, 1);
        expectAway("even", 0, 2, 1);
        Check.same("a stream that was refused", open().askOpen(3, 129).frame(Talk.DATA, 0, 3, 1, 2).told(),
                "RESET 0 of 3: 1; WINDOW 0 of 0: 0 2; RESET 0 of 3: 5");
        Check.same("one that was left out", open().askOpen(5, Talk.getting('a')).frame(Talk.DATA, 0, 3).told(),
                "RESET 0 of 3: 5");

        Talk closed = Talk.withPages();
        closed.ask(1, Talk.getting('a'));
        closed.takeAll();
        closed.frame(Talk.DATA, Talk.END, 1, 1);
        Check.same("the client's side is closed", closed.told(), "WINDOW 0 of 0: 0 1; RESET 0 of 1: 5");
        Check.same("it is open no more", closed.server.about(1), 0);
        closed.frame(Talk.DATA, 0, 1);
        Check.same("again, without bytes", closed.told(), "RESET 0 of 1: 5");
    }

    private static void expectAway(String what, int flags, int stream, int code, int... body) {
        Talk talk = open();
        talk.frame(Talk.DATA, flags, stream, body);
        Check.same(what, talk.told(), "AWAY 0 of 0: 1 " + code);
    }

    private static void lengths() {
        expectAway("longer than 80", 0, 1, 3, Talk.times(81, 1));
        expectAway("longer than 80 of an idle one", 0, 3, 1, Talk.times(81, 1));
        Talk eighty = open();
        eighty.frame(Talk.DATA, Talk.END, 1, Talk.times(80, 1));
        Check.same("80", eighty.told(), "WINDOW 0 of 0: 0 80; RESET 0 of 1: 3");
        Check.same("open no more", eighty.server.about(1), 0);
        Check.same("81 of a closed one", eighty.frame(Talk.DATA, 0, 1, Talk.times(81, 1)).told(),
                "AWAY 0 of 0: 1 3");
        Talk more = open();
        more.frame(Talk.DATA, 0, 1, Talk.times(51, 1));
        Check.same("51", more.told(), "WINDOW 0 of 0: 0 51; RESET 0 of 1: 3");
        Talk fifty = open();
        fifty.frame(Talk.DATA, 0, 1, Talk.times(50, 1));
        Check.same("50", fifty.told(), "WINDOW 0 of 0: 0 50; WINDOW 0 of 1: 0 50");
        Check.same("50 counted", fifty.server.stream(1, 2), 50);
        Talk none = open();
        none.frame(Talk.DATA, 0, 1);
        Check.same("none", none.told(), "");
        Check.same("still open", none.server.about(1), 1);
    }

    private static void padding() {
        expectAway("PADDED without bytes", Talk.PADDED, 1, 1);
        expectAway("PADDED by 1 of 1", Talk.PADDED, 1, 1, 1);
        expectAway("PADDED by 3 of 3", Talk.PADDED, 1, 1, 3, 0, 0);
        expectAway("PADDED by 255 of 81", Talk.PADDED, 1, 1, Talk.join(new int[] {255}, Talk.times(80, 0)));
        Talk all = open();
        all.frame(Talk.DATA, Talk.PADDED, 1, 2, 0, 0);
        Check.same("padding alone", all.told(), "WINDOW 0 of 0: 0 3; WINDOW 0 of 1: 0 3");
        Check.same("nothing counted", all.server.stream(1, 2), 0);
        all.frame(Talk.DATA, Talk.PADDED, 1, 1, 7, 7, 7, 0);
        Check.same("three counted", all.server.stream(1, 2), 3);
        all.frame(Talk.DATA, Talk.PADDED, 1, 0);
        Check.same("a first byte alone", all.told(),
                "WINDOW 0 of 0: 0 5; WINDOW 0 of 1: 0 5; WINDOW 0 of 0: 0 1; WINDOW 0 of 1: 0 1");
        Check.same("none more", all.server.stream(1, 2), 3);
        all.frame(Talk.DATA, Talk.PADDED, 1, Talk.join(new int[] {20}, Talk.times(50, 0)));
        Check.same("padding makes it longer than 50", all.told(), "WINDOW 0 of 0: 0 51; RESET 0 of 1: 3");
    }

    private static void counting() {
        Talk talk = open();
        talk.frame(Talk.DATA, 0, 1, 1, 2, 3).frame(Talk.DATA, 0, 1, 4);
        Check.same("all are counted", talk.server.stream(1, 2), 4);
        talk.takeAll();
        talk.frame(Talk.DATA, Talk.END, 1, 5, 6);
        Check.same("with END it is answered", talk.told(), "WINDOW 0 of 0: 0 2; HEADERS 5 of 1: 134");
        Check.same("and over", talk.server.about(1), 0);

        Talk body = Talk.withPages();
        body.askOpen(1, Talk.GET, Talk.ROOT).frame(Talk.DATA, Talk.END, 1);
        Check.same("END without bytes", body.told(), "HEADERS 4 of 1: 134; DATA 0 of 1: 7*40");
        Check.same("its client's side is closed", body.server.stream(1, 3), 1);
    }

    private static void lengthField() {
        Check.same("as said", length("3", 3), "WINDOW 0 of 0: 0 3; HEADERS 5 of 1: 134");
        Check.same("more", length("3", 4), "WINDOW 0 of 0: 0 4; RESET 0 of 1: 1");
        Check.same("fewer", length("3", 2), "WINDOW 0 of 0: 0 2; RESET 0 of 1: 1");
        Check.same("0", length("0", 0), "HEADERS 5 of 1: 134");
        Check.same("000", length("000", 0), "HEADERS 5 of 1: 134");
        Check.same("050", length("050", 50), "WINDOW 0 of 0: 0 50; HEADERS 5 of 1: 134");
        Check.same("999", length("999", 9), "WINDOW 0 of 0: 0 9; RESET 0 of 1: 1");

        Talk sum = Talk.withPages();
        sum.askOpen(1, Talk.join(Talk.getting('e'), Talk.field("length", "100")));
        sum.frame(Talk.DATA, 0, 1, Talk.times(50, 1)).frame(Talk.DATA, 0, 1, Talk.times(49, 1));
        sum.takeAll();
        sum.frame(Talk.DATA, Talk.END + Talk.PADDED, 1, 1, 1, 1);
        Check.same("the sum, without padding", sum.told(), "WINDOW 0 of 0: 0 3; HEADERS 5 of 1: 134");

        Talk over = Talk.withPages();
        over.askOpen(1, Talk.join(Talk.getting('e'), Talk.field("length", "1")));
        over.frame(Talk.DATA, 0, 1, 1, 2, 3);
        Check.same("too many are told at END alone", over.server.about(1), 1);
    }

    private static String length(String says, int bytes) {
        Talk talk = Talk.withPages();
        talk.askOpen(1, Talk.join(Talk.getting('e'), Talk.field("length", says)));
        talk.frame(Talk.DATA, Talk.END, 1, Talk.times(bytes, 1));
        Check.same("open no more", talk.server.about(1), 0);
        return talk.told();
    }
}
