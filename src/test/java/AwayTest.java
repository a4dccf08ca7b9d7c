/** Promise 8: away. */
public final class AwayTest {
    public static void main(String[] args) {
        Check.run(AwayTest::noAway,
                AwayTest::eachCode,
                AwayTest::itStays,
                AwayTest::clientsAway);
    }

    private static void noAway() {
        Check.of("Promise 8", "0 without");
        Check.same("new", new Talk().away(), 0);
        Check.same("begun", Talk.begun().away(), 0);
        Check.same("RESET is no AWAY", Talk.begun().ask(1).away(), 0);
        Talk restarted = new Talk().bytes(0);
        restarted.restart();
        Check.same("after restart", restarted.away(), 0);
    }

    private static void eachCode() {
        Check.of("Promise 8", "The code of the server's AWAY");
        Check.same("1", Talk.begun().frame(Talk.MORE, 0, 1).away(), 1);
        Check.same("3", Talk.begun().widen(0, 65535).away(), 3);
        Check.same("5", Talk.begun().ask(3).ask(1).away(), 5);
        Check.same("6", Talk.begun().frame(Talk.PING, 0, 0).away(), 6);
        Check.same("9", Talk.begun().ask(1, 128).away(), 9);
    }

    private static void itStays() {
        Check.of("Promise 8", "The code of the server's AWAY");
        Talk talk = Talk.begun().frame(Talk.PING, 0, 0).hushed();
        Check.same("when it is taken", talk.away(), 6);
        talk.frame(Talk.MORE, 0, 1);
        Check.same("the first one's", talk.away(), 6);
    }

    private static void clientsAway() {
        Check.of("Promise 8", "The code of the server's AWAY; 0 without");
        Check.same("the client's AWAY", Talk.begun().frame(Talk.AWAY, 0, 0, 0, 9).away(), 0);
    }
}
