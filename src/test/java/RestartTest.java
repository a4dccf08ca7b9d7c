/** Promise 4: all begins anew, but for the pages. */
public final class RestartTest {
    public static void main(String[] args) {
        Talk talk = Talk.withPages();
        talk.frame(Talk.SETTINGS, 0, 0, 4, 10, 5, 20);
        talk.ask(1, Talk.join(new int[] {32 + 20, 129, 67, 2, '/', 'a'}));
        talk.frame(Talk.HEADERS, 0, 3, 129);
        talk.server.restart();
        expectNew(talk);
        talk.begin();
        talk.ask(1, Talk.getting('a'));
        Check.same("the pages stay", talk.told(), "HEADERS 4 of 1: 134; DATA 0 of 1: 1*40");
        Check.same("all as before", talk.state(), "1 1 60 64 24 0 0 5");

        talk.frame(Talk.MORE, 0, 1);
        Check.same("away", talk.server.away(), 1);
        talk.server.restart();
        expectNew(talk);

        talk.bytes(80, 82);
        talk.server.restart();
        talk.takeAll();
        talk.bytes(80, 82, 73, 10, 0, 4);
        talk.server.restart();
        expectNew(talk);
        talk.begin();
        Check.same("half a frame is gone", talk.state() + " " + talk.server.away(), "0 0 100 64 24 0 0 0 0");
        talk.server.restart();
        talk.takeAll();
        talk.bytes(80, 82, 73, 10, 0, 6, 0, 0);
        Check.same("the first frame is to be SETTINGS again", talk.told(), "AWAY 0 of 0: 0 1");

        Talk turn = Talk.withPages();
        turn.ask(9, Talk.getting('a'));
        turn.server.restart();
        turn.begin();
        turn.frame(Talk.SETTINGS, 0, 0, 4, 0).ask(3, Talk.getting('a')).ask(11, Talk.getting('b'));
        turn.takeAll();
        turn.frame(Talk.SETTINGS, 0, 0, 4, 1);
        Check.same("the turn begins anew", turn.told(), "SETTINGS 1 of 0:; DATA 0 of 3: 1; DATA 0 of 11: 2");

        for (int k = 0; k < 100; k++) {
            turn.server.restart();
        }
        expectNew(turn);
        Check.end();
    }

    private static void expectNew(Talk talk) {
        Check.same("state", talk.state(), "0 0 100 64 24 0 0 0");
        Check.same("away", talk.server.away(), 0);
        Check.throwsNoSuch("no stream", () -> talk.server.stream(1, 0));
        Check.throwsNoSuch("no entry that came", () -> talk.server.entry(8, 0, 0));
        Check.same("output", talk.told(), "SETTINGS 0 of 0: 3 4");
    }
}
