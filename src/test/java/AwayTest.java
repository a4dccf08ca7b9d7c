/** Promise 8: the code of the server's AWAY; 0 without. */
public final class AwayTest {
    public static void main(String[] args) {
        Check.same("new", new PageServer().away(), 0);
        Check.same("begun", Talk.begun().server.away(), 0);
        Check.same("RESET is no AWAY", Talk.begun().ask(1).server.away(), 0);
        Check.same("1", Talk.begun().frame(Talk.MORE, 0, 1).server.away(), 1);
        Check.same("3", Talk.begun().frame(Talk.WINDOW, 0, 0, 255, 0).server.away(), 3);
        Check.same("5", Talk.begun().ask(3).ask(1).server.away(), 5);
        Check.same("6", Talk.begun().frame(Talk.PING, 0, 0).server.away(), 6);
        Check.same("9", Talk.begun().ask(1, 128).server.away(), 9);

        Talk talk = Talk.begun();
        talk.frame(Talk.PING, 0, 0);
        talk.takeAll();
        Check.same("it stays when it is taken", talk.server.away(), 6);
        talk.frame(Talk.MORE, 0, 1);
        Check.same("the first counts", talk.server.away(), 6);
        talk.server.restart();
        Check.same("after restart", talk.server.away(), 0);
        Check.end();
    }
}
