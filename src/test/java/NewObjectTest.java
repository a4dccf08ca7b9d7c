/** Promise 1: a new object has no pages, and nothing came yet. */
public final class NewObjectTest {
    public static void main(String[] args) {
        Talk talk = new Talk();
        Check.same("about", talk.state(), "0 0 100 64 24 0 0 0");
        Check.same("away", talk.server.away(), 0);
        Check.throwsNoSuch("no stream", () -> talk.server.stream(1, 0));
        Check.throwsNoSuch("no stream 0", () -> talk.server.stream(0, 0));
        Check.throwsNoSuch("no entry that came", () -> talk.server.entry(8, 0, 0));
        Check.same("the first output", talk.said().toString(), "[2, 4, 0, 0, 3, 4]");
        Check.same("no page", new PageServer().page(0, 0, 0, 0), 0);

        talk.begin();
        talk.ask(1, Talk.GET, Talk.ROOT);
        Check.same("there is no page /", talk.told(), "HEADERS 5 of 1: 135");

        Talk other = Talk.begun();
        other.server.page(0, 0, 1, 1);
        other.askOpen(1, Talk.GET, Talk.ROOT);
        Check.same("objects share nothing", new Talk().state(), "0 0 100 64 24 0 0 0");
        Check.same("objects share no pages", new PageServer().page(0, 0, 1, 1), 0);
        Check.end();
    }
}
