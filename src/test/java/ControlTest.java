/** Promise 3: RESET, PING, AWAY and frames of other types. */
public final class ControlTest {
    public static void main(String[] args) {
        reset();
        ping();
        away();
        otherTypes();
        Check.end();
    }

    private static void expect(String what, String due, int type, int flags, int stream, int... body) {
        Talk talk = Talk.withPages();
        talk.askOpen(3, Talk.getting('a')).frame(type, flags, stream, body);
        Check.same(what, talk.told(), due);
    }

    private static void reset() {
        expect("RESET of length 0", "AWAY 0 of 0: 3 6", Talk.RESET, 0, 3);
        expect("RESET of length 2", "AWAY 0 of 0: 3 6", Talk.RESET, 0, 3, 0, 0);
        expect("RESET of length 0 of an idle one", "AWAY 0 of 0: 3 6", Talk.RESET, 0, 5);
        expect("RESET of stream 0", "AWAY 0 of 0: 3 1", Talk.RESET, 0, 0, 8);
        expect("RESET above the highest", "AWAY 0 of 0: 3 1", Talk.RESET, 0, 5, 8);
        expect("RESET of an even one", "AWAY 0 of 0: 3 1", Talk.RESET, 0, 2, 8);
        expect("RESET of one that is not open", "", Talk.RESET, 0, 1, 8);
        Talk talk = Talk.withPages();
        talk.ask(1, Talk.getting('a')).askOpen(3, Talk.getting('b'));
        talk.takeAll();
        talk.frame(Talk.RESET, 0, 1, 8);
        Check.same("RESET says nothing", talk.told(), "");
        Check.same("one is open", talk.server.about(1), 1);
        Check.throwsNoSuch("stream 1 is not", () -> talk.server.stream(1, 0));
        talk.frame(Talk.WINDOW, 0, 1, 0, 20).frame(Talk.RESET, 0, 1, 8);
        Check.same("its bytes are not sent", talk.told(), "");
        talk.frame(Talk.DATA, 0, 1);
        Check.same("DATA for it", talk.told(), "RESET 0 of 1: 5");
        talk.frame(Talk.HEADERS, 0, 1);
        Check.same("HEADERS for it", talk.told(), "AWAY 0 of 0: 3 5");
    }

    private static void ping() {
        expect("PING", "PING 1 of 0: 9 0 255 1", Talk.PING, 0, 0, 9, 0, 255, 1);
        expect("PING with other flags", "PING 1 of 0: 9 8 7 1", Talk.PING, 254, 0, 9, 8, 7, 1);
        expect("PING with ACK", "", Talk.PING, Talk.ACK, 0, 9, 0, 255, 1);
        expect("PING not of stream 0", "AWAY 0 of 0: 3 1", Talk.PING, 0, 3, 9, 0, 255, 1);
        expect("PING not of stream 0, of length 3", "AWAY 0 of 0: 3 1", Talk.PING, 0, 3, 9, 0, 1);
        expect("PING of length 3", "AWAY 0 of 0: 3 6", Talk.PING, 0, 0, 9, 0, 255);
        expect("PING of length 5", "AWAY 0 of 0: 3 6", Talk.PING, 0, 0, 9, 0, 255, 1, 1);
        expect("PING of length 0 with ACK", "AWAY 0 of 0: 3 6", Talk.PING, Talk.ACK, 0);
    }

    private static void away() {
        expect("AWAY", "", Talk.AWAY, 0, 0, 0, 1);
        expect("AWAY not of stream 0", "AWAY 0 of 0: 3 1", Talk.AWAY, 0, 3, 0, 1);
        expect("AWAY not of stream 0, of length 1", "AWAY 0 of 0: 3 1", Talk.AWAY, 0, 3, 0);
        expect("AWAY of length 1", "AWAY 0 of 0: 3 6", Talk.AWAY, 0, 0, 0);
        expect("AWAY of length 3", "AWAY 0 of 0: 3 6", Talk.AWAY, 0, 0, 0, 0, 0);
        Talk talk = Talk.withPages();
        talk.frame(Talk.AWAY, 0, 0, 0, 1);
        Check.same("away tells the server's alone", talk.server.away(), 0);
        talk.ask(1, Talk.getting('e'));
        Check.same("it goes on", talk.told(), "HEADERS 5 of 1: 134");
    }

    private static void otherTypes() {
        for (int type : new int[] {2, 5, 10, 11, 77, 255}) {
            expect("type " + type, "", type, 255, 3, 1, 2, 3);
            expect("type " + type + " of stream 0", "", type, 0, 0);
            expect("type " + type + " of an idle one", "", type, 0, 8, Talk.times(200, 7));
        }
    }
}
