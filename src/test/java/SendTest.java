/** Promise 3: how bodies are sent, in turn and as far as the windows reach. */
public final class SendTest {
    public static void main(String[] args) {
        limits();
        turns();
        connectionWindow();
        afterEachFrame();
        Check.end();
    }

    private static void limits() {
        Talk small = new Talk();
        small.server.page(0, 0, 1, 0);
        small.begin();
        small.ask(1, Talk.GET, Talk.ROOT);
        Check.same("one byte", small.told(), "HEADERS 4 of 1: 134; DATA 1 of 1: 0");

        Talk exact = new Talk();
        exact.server.page(0, 0, 40, 5);
        exact.begin();
        exact.ask(1, Talk.GET, Talk.ROOT);
        Check.same("as long as the window", exact.told(), "HEADERS 4 of 1: 134; DATA 1 of 1: 5*40");
        Check.same("the connection's is less", exact.server.about(2), 60);

        Talk longest = Talk.withPages();
        longest.frame(Talk.SETTINGS, 0, 0, 4, 200, 5, 59);
        longest.takeAll();
        longest.ask(1, Talk.getting('a'));
        Check.same("as long as the longest frame", longest.told(),
                "HEADERS 4 of 1: 134; DATA 0 of 1: 1*59; DATA 1 of 1: 1");
        Check.same("over", longest.server.about(1), 0);
    }

    private static void turns() {
        Talk talk = Talk.withPages();
        talk.frame(Talk.SETTINGS, 0, 0, 4, 0, 5, 16).frame(Talk.WINDOW, 0, 0, 3, 0);
        talk.ask(3, Talk.getting('a')).ask(5, Talk.getting('b')).ask(9, Talk.getting('a'));
        talk.takeAll();
        talk.frame(Talk.SETTINGS, 0, 0, 4, 20);
        Check.same("in turn", talk.told(), "SETTINGS 1 of 0:; DATA 0 of 3: 1*16; DATA 0 of 5: 2*16; "
                + "DATA 0 of 9: 1*16; DATA 0 of 3: 1*4; DATA 0 of 5: 2*4; DATA 0 of 9: 1*4");
        talk.frame(Talk.WINDOW, 0, 5, 0, 1);
        Check.same("5 alone", talk.told(), "DATA 0 of 5: 2");
        talk.frame(Talk.SETTINGS, 0, 0, 4, 22);
        Check.same("the next above the last one of the frame before", talk.told(),
                "SETTINGS 1 of 0:; DATA 0 of 9: 1 1; DATA 0 of 3: 1 1; DATA 0 of 5: 2 2");
        talk.frame(Talk.WINDOW, 0, 9, 0, 38);
        Check.same("the last ones with END", talk.told(),
                "DATA 0 of 9: 1*16; DATA 0 of 9: 1*16; DATA 1 of 9: 1*6");
        talk.ask(11, Talk.getting('b'));
        Check.same("a new one above", talk.told(), "HEADERS 4 of 11: 134; DATA 0 of 11: 2*16; DATA 0 of 11: 2*6");
        talk.frame(Talk.SETTINGS, 0, 0, 4, 23);
        Check.same("the least, if there is none above", talk.told(),
                "SETTINGS 1 of 0:; DATA 0 of 3: 1; DATA 0 of 5: 2; DATA 0 of 11: 2");

        Talk gone = Talk.withPages();
        gone.ask(1, Talk.getting('a')).ask(3, Talk.getting('b'));
        gone.takeAll();
        gone.frame(Talk.RESET, 0, 3, 0).ask(5, Talk.getting('a'));
        Check.same("20 are left for 5", gone.told(), "HEADERS 4 of 5: 134; DATA 0 of 5: 1*20");
        gone.frame(Talk.WINDOW, 0, 1, 0, 5).frame(Talk.RESET, 0, 5, 0).frame(Talk.WINDOW, 0, 0, 0, 9);
        Check.same("the last one may be over", gone.told(), "DATA 0 of 1: 1*5");
    }

    private static void connectionWindow() {
        Talk talk = Talk.withPages();
        talk.frame(Talk.SETTINGS, 0, 0, 4, 255);
        talk.takeAll();
        talk.ask(1, Talk.getting('a')).ask(3, Talk.getting('b'));
        Check.same("100 in all", talk.told(), "HEADERS 4 of 1: 134; DATA 1 of 1: 1*60; "
                + "HEADERS 4 of 3: 134; DATA 0 of 3: 2*40");
        Check.same("0 are left", talk.server.about(2), 0);
        talk.ask(5, Talk.getting('a'));
        Check.same("no more", talk.told(), "HEADERS 4 of 5: 134");
        Check.same("its window is as it was", talk.server.stream(5, 0), 255);
        Check.same("its bytes are to be sent", talk.server.stream(5, 1), 60);
        talk.frame(Talk.WINDOW, 0, 0, 0, 70);
        Check.same("5, being above 3, goes first", talk.told(), "DATA 1 of 5: 1*60; DATA 0 of 3: 2*10");
        talk.frame(Talk.WINDOW, 0, 0, 0, 10);
        Check.same("the last ones", talk.told(), "DATA 1 of 3: 2*10");
        Check.same("all is sent", talk.server.about(1) + " " + talk.server.about(2), "0 0");
    }

    private static void afterEachFrame() {
        Talk away = Talk.withPages();
        away.frame(Talk.SETTINGS, 0, 0, 4, 0).ask(1, Talk.getting('a'));
        away.takeAll();
        away.frame(Talk.SETTINGS, 0, 0, 4, 60, 5, 1);
        Check.same("not after one that led to AWAY", away.told(), "AWAY 0 of 0: 1 1");
        Check.same("60 are to be sent", away.server.stream(1, 1), 60);

        Talk reset = Talk.withPages();
        reset.frame(Talk.SETTINGS, 0, 0, 4, 60).ask(1, Talk.getting('a')).ask(3, Talk.getting('b'));
        reset.takeAll();
        reset.askOpen(5, Talk.getting('a')).frame(Talk.WINDOW, 0, 5, 0, 0);
        Check.same("the connection's window is 0", reset.told(), "RESET 0 of 5: 1");
    }
}
