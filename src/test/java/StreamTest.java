/** Promise 10: stream. */
public final class StreamTest {
    public static void main(String[] args) {
        Talk talk = Talk.withPages();
        talk.askOpen(1, Talk.getting('a')).frame(Talk.DATA, 0, 1, 1, 2, 3);
        talk.ask(5, Talk.getting('b'));
        Check.same("1", told(talk, 1), "40 0 3 0");
        Check.same("5", told(talk, 5), "0 20 0 1");
        talk.frame(Talk.WINDOW, 0, 5, 0, 6).frame(Talk.WINDOW, 0, 1, 0, 1);
        Check.same("1 has a wider window", told(talk, 1), "41 0 3 0");
        Check.same("5 sent more", told(talk, 5), "0 14 0 1");
        talk.frame(Talk.DATA, Talk.END, 1);
        Check.same("1 is answered", told(talk, 1), "0 19 3 1");
        talk.frame(Talk.SETTINGS, 0, 0, 4, 5);
        Check.same("a window below 0", told(talk, 1), "-35 19 3 1");

        for (int s : new int[] {0, 2, 3, 7, -1, 257, Integer.MIN_VALUE, Integer.MAX_VALUE}) {
            Check.throwsNoSuch("stream " + s, () -> talk.server.stream(s, 0));
        }
        for (int what : new int[] {-1, 4, Integer.MIN_VALUE, Integer.MAX_VALUE}) {
            Check.throwsNoSuch("what " + what, () -> talk.server.stream(1, what));
        }
        talk.frame(Talk.RESET, 0, 1, 1);
        Check.throwsNoSuch("a closed one", () -> talk.server.stream(1, 0));
        Check.same("the other stays", told(talk, 5), "-35 14 0 1");
        talk.askOpen(9, Talk.getting('a'));
        Check.same("a new one has nothing of an old one", told(talk, 9), "5 0 0 0");
        talk.frame(Talk.WINDOW, 0, 5, 0, 49);
        Check.same("as far as the connection's window reaches", told(talk, 5), "1 1 0 1");
        talk.frame(Talk.WINDOW, 0, 0, 0, 1);
        Check.throwsNoSuch("one that was sent", () -> talk.server.stream(5, 0));
        Check.end();
    }

    private static String told(Talk talk, int s) {
        return talk.server.stream(s, 0) + " " + talk.server.stream(s, 1) + " "
                + talk.server.stream(s, 2) + " " + talk.server.stream(s, 3);
    }
}
