/** Promise 1: a new object. */
public final class NewObjectTest {
    private static final String NEW_STATE = "0 0 100 64 24 0 0 0";

    public static void main(String[] args) {
        Check.run(NewObjectTest::noPages,
                NewObjectTest::nothingCame,
                NewObjectTest::outputBegins,
                NewObjectTest::objectsShareNothing,
                NewObjectTest::mostCalls);
    }

    private static void noPages() {
        Check.of("Promise 1", "No pages");
        Talk talk = Talk.begun();
        talk.ask(1, Talk.GET, Talk.ROOT);
        Check.same("GET /", talk.told(), "HEADERS 5 of 1: 135");
        for (int k = 0; k < 8; k++) {
            Check.same("the number of page " + k, talk.page('a' + k, 0, 1, 1), k);
        }
    }

    private static void nothingCame() {
        Check.of("Promise 1", "nothing came yet");
        Talk talk = new Talk();
        Check.same("about", talk.state(), NEW_STATE);
        Check.same("away", talk.away(), 0);
        Check.throwsNoSuch("stream 0", () -> talk.stream(0, 0));
        Check.throwsNoSuch("stream 1", () -> talk.stream(1, 0));
        Check.throwsNoSuch("entry 8", () -> talk.entry(8, 0, 0));
        talk.preface().settings();
        Check.same("the preface and SETTINGS are taken", talk.away(), 0);
    }

    private static void outputBegins() {
        Check.of("Terms, BYTES", "it begins with SETTINGS of 3, 4");
        Check.same("the bytes that wait", new Talk().said().toString(), "[2, 4, 0, 0, 3, 4]");
    }

    private static void objectsShareNothing() {
        Check.of("Promise 1", "A new object");
        Talk used = Talk.withPages();
        used.settings(4, 9, 5, 20).ask(1, 129, 67, 2, '/', 'a');
        Talk talk = new Talk();
        Check.same("about", talk.state(), NEW_STATE);
        Check.same("waiting", talk.waiting(), 6);
        Check.same("the number of its first page", talk.page(0, 0, 1, 1), 0);
    }

    private static void mostCalls() {
        Check.of("What it is", "An object is used for at most 512 calls after it has been made");
        Talk talk = Talk.begun();
        while (talk.calls() < Talk.MOST_CALLS - 3) {
            talk.ping();
            talk.take(talk.calls() % 3 == 0 ? 16 : 8);
        }
        talk.takeAll();
        while (talk.calls() < Talk.MOST_CALLS - 1) {
            talk.feed(0, 0);
        }
        Check.same("the 512th", talk.about(2), 100);
        Check.same("calls", talk.calls(), Talk.MOST_CALLS);
    }
}
