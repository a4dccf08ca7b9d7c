/** Promise 3: SETTINGS that come. */
public final class SettingsTest {
    public static void main(String[] args) {
        wrong();
        windows();
        longest();
        others();
        Check.end();
    }

    private static void expect(String what, String due, int flags, int stream, int... body) {
        Talk talk = Talk.begun();
        talk.frame(Talk.SETTINGS, flags, stream, body);
        Check.same(what, talk.told(), due);
    }

    private static void wrong() {
        expect("not of stream 0", "AWAY 0 of 0: 0 1", 0, 1);
        expect("not of stream 0, an odd length", "AWAY 0 of 0: 0 1", 0, 1, 4);
        expect("not of stream 0, with ACK", "AWAY 0 of 0: 0 1", Talk.ACK, 1);
        expect("ACK and a length", "AWAY 0 of 0: 0 6", Talk.ACK, 0, 4, 4);
        expect("ACK and a length of 1", "AWAY 0 of 0: 0 6", Talk.ACK, 0, 4);
        expect("ACK", "", Talk.ACK, 0);
        expect("an odd length", "AWAY 0 of 0: 0 6", 0, 0, 4);
        expect("an odd length of 3", "AWAY 0 of 0: 0 6", 0, 0, 4, 50, 5);
        expect("none", "SETTINGS 1 of 0:", 0, 0);
        Talk odd = Talk.withPages();
        odd.askOpen(1, Talk.getting('a')).frame(Talk.SETTINGS, 0, 0, 4, 50, 5);
        Check.same("an odd length changes nothing", odd.server.stream(1, 0), 40);
    }

    private static void windows() {
        Talk talk = Talk.withPages();
        talk.askOpen(1, Talk.getting('a')).ask(3, Talk.getting('b'));
        talk.takeAll();
        talk.frame(Talk.SETTINGS, 0, 0, 4, 30);
        Check.same("less", talk.told(), "SETTINGS 1 of 0:");
        Check.same("of one that is not answered", talk.server.stream(1, 0), 30);
        Check.same("below 0", talk.server.stream(3, 0), -10);
        talk.askOpen(5, Talk.getting('a'));
        Check.same("new ones begin with it", talk.server.stream(5, 0), 30);
        Check.same("the connection's is as it was", talk.server.about(2), 60);
        talk.frame(Talk.SETTINGS, 0, 0, 4, 45);
        Check.same("more, and DATA behind", talk.told(), "SETTINGS 1 of 0:; DATA 0 of 3: 2*5");
        Check.same("by the value less the one before", talk.server.stream(1, 0), 45);
        talk.frame(Talk.SETTINGS, 0, 0, 4, 0, 4, 255);
        Check.same("one pair after the other", talk.told(), "SETTINGS 1 of 0:; DATA 1 of 3: 2*15");
        Check.same("the last counts", talk.server.stream(5, 0), 255);
        Talk none = Talk.withPages();
        none.frame(Talk.SETTINGS, 0, 0, 4, 0).ask(1, Talk.getting('a'));
        Check.same("a first window of 0", none.told(), "SETTINGS 1 of 0:; HEADERS 4 of 1: 134");

        Talk above = Talk.withPages();
        above.askOpen(1, Talk.getting('a')).frame(Talk.WINDOW, 0, 1, 29960 / 256, 29960 % 256);
        above.takeAll();
        above.frame(Talk.SETTINGS, 0, 0, 4, 255);
        Check.same("no limit is told here", above.told() + " " + above.server.stream(1, 0),
                "SETTINGS 1 of 0: 30215");
    }

    private static void longest() {
        Talk talk = Talk.withPages();
        talk.frame(Talk.SETTINGS, 0, 0, 5, 16);
        Check.same("16", talk.told() + " " + talk.server.about(3), "SETTINGS 1 of 0: 16");
        talk.ask(1, Talk.getting('a'));
        Check.same("DATA of at most 16", talk.told(),
                "HEADERS 4 of 1: 134; DATA 0 of 1: 1*16; DATA 0 of 1: 1*16; DATA 0 of 1: 1*8");
        talk.frame(Talk.SETTINGS, 0, 0, 5, 255, 5, 200);
        Check.same("200", talk.told() + " " + talk.server.about(3), "SETTINGS 1 of 0: 200");
        talk.frame(Talk.SETTINGS, 0, 0, 4, 50, 5, 15, 4, 60);
        Check.same("15", talk.told(), "AWAY 0 of 0: 1 1");
        Check.same("it was not taken", talk.server.about(3), 200);
        Check.same("the pair before was, the one behind not", talk.server.stream(1, 0), 10);
        expect("0", "AWAY 0 of 0: 0 1", 0, 0, 5, 0);
    }

    private static void others() {
        Talk talk = Talk.withPages();
        talk.askOpen(1, Talk.getting('a'));
        String state = talk.state();
        talk.frame(Talk.SETTINGS, 0, 0, 0, 1, 1, 1, 2, 2, 3, 1, 6, 9, 255, 0);
        Check.same("others are ignored", talk.told(), "SETTINGS 1 of 0:");
        Check.same("nothing changed", talk.state() + " " + talk.server.stream(1, 0), state + " 40");
        talk.frame(Talk.PING, Talk.ACK, 0, 4, 99, 5, 99).frame(Talk.SETTINGS, 0, 0);
        Check.same("bytes of the frame before are no pairs", talk.state() + " " + talk.server.stream(1, 0),
                state + " 40");
    }
}
