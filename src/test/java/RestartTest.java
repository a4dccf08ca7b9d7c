/** Promise 4: restart. */
public final class RestartTest {
    private static final String WORDS = "All begins anew, but for the pages";
    private static final String NEW = new Talk().all();

    public static void main(String[] args) {
        Check.run(RestartTest::newObject,
                RestartTest::withinPreface,
                RestartTest::withinFrame,
                RestartTest::withinBlock,
                RestartTest::afterAway,
                RestartTest::withFullOutput,
                RestartTest::streamsAndTable,
                RestartTest::firstFrameIsSettingsAgain,
                RestartTest::turnBeginsAnew,
                RestartTest::pagesStay,
                RestartTest::fullSiteStays,
                RestartTest::manyTimes);
    }

    /** Restarts, looks that all is as in a new object, and that a talk begins as with one. */
    private static void expectNew(String what, Talk talk) {
        Check.of("Promise 4", WORDS);
        talk.restart();
        Check.same(what + ", then all", talk.all(), NEW);
        talk.begin();
        talk.askOpen(1, Talk.GET, Talk.ROOT);
        Check.same(what + ", then a request", talk.told() + talk.state() + " | " + talk.streamText(1),
                "1 1 100 64 24 0 0 2 | 40 0 0 0");
    }

    private static void newObject() {
        expectNew("a new object", new Talk());
    }

    private static void withinPreface() {
        expectNew("one byte", new Talk().bytes(80));
        expectNew("three bytes", new Talk().bytes(80, 82, 73));
        expectNew("the preface", new Talk().preface());
    }

    private static void withinFrame() {
        expectNew("a length", Talk.begun().bytes(9));
        expectNew("half a frame", Talk.begun().bytes(4, 6, 0, 0, 1, 2));
        expectNew("all but its last byte", Talk.begun().bytes(4, 6, 0, 0, 1, 2, 3));
    }

    private static void withinBlock() {
        expectNew("HEADERS without DONE", Talk.begun().frame(Talk.HEADERS, Talk.END, 1, 32, 129));
        expectNew("MORE without DONE", Talk.begun().frame(Talk.HEADERS, 0, 1, 129).frame(Talk.MORE, 0, 1, 131));
    }

    private static void afterAway() {
        expectNew("a wrong preface", new Talk().bytes(0));
        expectNew("a frame too long", Talk.begun().bytes(201, 0, 0, 0));
        expectNew("MORE alone", Talk.begun().askOpen(5, 129, 131).frame(Talk.MORE, 0, 1));
        expectNew("a block that cannot be read", Talk.begun().askOpen(5, 129, 128));
        expectNew("a block too long", Talk.begun().frame(Talk.HEADERS, 0, 1, 129)
                .frame(Talk.MORE, 0, 1, Talk.times(100, 132)));
    }

    private static void withFullOutput() {
        Talk talk = Talk.begun();
        for (int k = 0; k < 38; k++) {
            talk.ping();
        }
        Check.of("Promise 4", WORDS);
        Check.same("feed is refused", talk.feed(0, 1), false);
        expectNew("full output", talk);
    }

    private static void streamsAndTable() {
        Talk talk = Talk.withPages().settings(4, 10, 5, 20).widen(0, 500);
        talk.ask(1, 32 + 20, 129, 67, 2, '/', 'a').askOpen(3, Talk.join(Talk.getting('b'), Talk.field("length", "9")))
                .frame(Talk.DATA, 0, 3, 1, 2).askOpen(5, Talk.entering("x", "y"));
        expectNew("streams, windows and entries", talk);
        talk.frame(Talk.DATA, Talk.END, 1);
        Check.same("no length is left of the stream before", talk.told(), "HEADERS 4 of 1: 134; DATA 0 of 1: 7*40");
        talk.ask(3, Talk.getting('a'));
        Check.same("the windows at first", talk.told() + " " + talk.about(2), "HEADERS 4 of 3: 134; DATA 0 of 3: 1*40 20");
    }

    private static void firstFrameIsSettingsAgain() {
        Check.of("Promise 4", WORDS);
        Talk ping = Talk.begun();
        ping.restart();
        ping.hushed().preface().ping();
        Check.same("PING as the first", ping.told(), "AWAY 0 of 0: 0 1");
        Talk noPreface = Talk.begun();
        noPreface.restart();
        noPreface.hushed().settings();
        Check.same("no preface", noPreface.told(), "AWAY 0 of 0: 0 1");
    }

    private static void turnBeginsAnew() {
        Check.of("Promise 4", WORDS);
        Talk talk = Talk.withPages().ask(9, Talk.getting('a'));
        talk.restart();
        talk.begin();
        talk.settings(4, 0).ask(3, Talk.getting('a')).ask(11, Talk.getting('b')).hushed();
        Check.same("3 is before 11, though 9 was the last", talk.settings(4, 1).told(),
                "SETTINGS 1 of 0:; DATA 0 of 3: 1; DATA 0 of 11: 2");
    }

    private static void pagesStay() {
        Check.of("Promise 4", "but for the pages");
        Talk talk = Talk.withPages();
        talk.restart();
        talk.begin();
        Check.same("GET /b", talk.ask(1, Talk.getting('b')).told(), "HEADERS 4 of 1: 134; DATA 0 of 1: 2*40");
        Check.throwsArgument("such a path", () -> talk.page('b', 0, 1, 1));
        Check.same("the next number", talk.page('c', 0, 1, 1), 4);
    }

    private static void fullSiteStays() {
        Check.of("Promise 4", "but for the pages");
        Talk talk = new Talk();
        for (int k = 0; k < 8; k++) {
            talk.page('a' + k, 0, 1, 1);
        }
        talk.restart();
        Check.throwsState("a ninth", () -> talk.page('z', 0, 1, 1));
    }

    private static void manyTimes() {
        Talk talk = Talk.begun();
        for (int k = 0; k < 300; k++) {
            talk.restart();
        }
        expectNew("300 times", talk);
    }
}
