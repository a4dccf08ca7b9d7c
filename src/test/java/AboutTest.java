/** Promise 9: about. */
public final class AboutTest {
    public static void main(String[] args) {
        Talk talk = Talk.withPages();
        Check.same("begun", talk.state(), "0 0 100 64 24 0 0 0");
        talk.frame(Talk.HEADERS, Talk.END, 5, 32 + 23, 129);
        Check.same("a block that is coming", talk.state(), "0 0 100 64 24 0 0 2");
        talk.frame(Talk.MORE, Talk.DONE, 5, 67, 2, '/', 'a');
        Check.same("a stream", talk.state(), "5 1 60 64 23 1 6 6");
        talk.askOpen(7, Talk.GET, Talk.ROOT);
        Check.same("two open", talk.state(), "7 2 60 64 23 1 6 2");
        talk.frame(Talk.WINDOW, 0, 0, 0, 9).frame(Talk.SETTINGS, 0, 0, 5, 70);
        Check.same("windows", talk.state(), "7 2 69 70 23 1 6 2");
        talk.frame(Talk.RESET, 0, 5, 1);
        Check.same("one open", talk.state(), "7 1 69 70 23 1 6 2");
        talk.frame(Talk.HEADERS, 0, 9, Talk.times(101, 129));
        Check.same("a piece too long", talk.state(), "7 1 69 70 23 1 6 0");
        for (int what : new int[] {-1, 8, 9, Integer.MIN_VALUE, Integer.MAX_VALUE}) {
            Check.same("about " + what, talk.server.about(what), PageServer.NONE);
        }

        Talk refused = Talk.begun();
        refused.askOpen(1, 129, 131, 132).frame(Talk.HEADERS, 0, 2, 129);
        Check.same("HEADERS that begin no block", refused.server.about(7), 3);
        Check.end();
    }
}
