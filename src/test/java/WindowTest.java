/** Promise 3: WINDOW that comes. */
public final class WindowTest {
    public static void main(String[] args) {
        wrong();
        connection();
        stream();
        Check.end();
    }

    private static void expectAway(String what, String due, int stream, int... body) {
        Talk talk = Talk.withPages();
        talk.askOpen(1, Talk.getting('a')).frame(Talk.WINDOW, 0, stream, body);
        Check.same(what, talk.told(), "AWAY 0 of 0: 1 " + due);
    }

    private static void wrong() {
        expectAway("length 0", "6", 0);
        expectAway("length 1", "6", 0, 1);
        expectAway("length 3", "6", 0, 0, 0, 1);
        expectAway("length 1 of an idle one", "6", 3, 1);
        expectAway("length 4 of an open one", "6", 1, 0, 0, 0, 1);
        expectAway("above the highest", "1", 3, 0, 1);
        expectAway("even", "1", 2, 0, 1);
        expectAway("by 0", "1", 0, 0, 0);
        expectAway("by 65535", "3", 0, 255, 255);
        expectAway("to 30001", "3", 0, 29901 / 256, 29901 % 256);
    }

    private static void connection() {
        Talk talk = Talk.begun();
        talk.frame(Talk.WINDOW, 0, 0, 1, 2);
        Check.same("the higher byte first", talk.server.about(2), 100 + 258);
        int rest = 30000 - 358;
        talk.frame(Talk.WINDOW, 0, 0, rest / 256, rest % 256);
        Check.same("30000", talk.server.about(2), 30000);
        Check.same("nothing is said", talk.told(), "");
        talk.frame(Talk.WINDOW, 0, 0, 0, 1);
        Check.same("30001", talk.told(), "AWAY 0 of 0: 0 3");
        Check.same("is not taken", talk.server.about(2), 30000);
    }

    private static Talk open() {
        Talk talk = Talk.withPages();
        talk.askOpen(1, Talk.getting('a')).askOpen(5, Talk.getting('b'));
        return talk;
    }

    private static void stream() {
        Talk talk = open();
        talk.frame(Talk.WINDOW, 0, 1, 1, 2);
        Check.same("of an open one", talk.server.stream(1, 0), 40 + 258);
        Check.same("of it alone", talk.server.stream(5, 0), 40);
        int rest = 30000 - 298;
        talk.frame(Talk.WINDOW, 0, 1, rest / 256, rest % 256);
        Check.same("30000", talk.server.stream(1, 0), 30000);
        talk.frame(Talk.WINDOW, 0, 1, 0, 1);
        Check.same("30001", talk.told(), "RESET 0 of 1: 3");
        Check.same("it is open no more", talk.server.about(1), 1);
        talk.frame(Talk.WINDOW, 0, 5, 0, 0);
        Check.same("by 0", talk.told(), "RESET 0 of 5: 1");
        Check.same("none is open", talk.server.about(1), 0);
        talk.frame(Talk.WINDOW, 0, 1, 255, 255).frame(Talk.WINDOW, 0, 5, 0, 0).frame(Talk.WINDOW, 0, 3, 0, 0);
        Check.same("of others", talk.told() + talk.server.away(), "0");

        Talk sending = Talk.withPages();
        sending.ask(1, Talk.getting('a'));
        sending.takeAll();
        sending.frame(Talk.WINDOW, 0, 1, 0, 7);
        Check.same("DATA behind it", sending.told(), "DATA 0 of 1: 1*7");
        sending.frame(Talk.SETTINGS, 0, 0, 4, 10).frame(Talk.WINDOW, 0, 1, 0, 30);
        Check.same("a window below 0 grows to 0", sending.told() + " " + sending.server.stream(1, 0),
                "SETTINGS 1 of 0: 0");
        sending.frame(Talk.WINDOW, 0, 1, 0, 1);
        Check.same("and above", sending.told(), "DATA 0 of 1: 1");
    }
}
