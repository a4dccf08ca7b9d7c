/** Promise 3: 'TO ANSWER' of 'Terms'. */
public final class AnswerTest {
    private static final String NO_PAGE = "HEADERS 5 of 1: 135 | 0";
    private static final String OTHER_METHOD = "HEADERS 5 of 1: 6 3 52 48 53 | 0";

    public static void main(String[] args) {
        Check.run(AnswerTest::aPage,
                AnswerTest::noPage,
                AnswerTest::anotherMethod,
                AnswerTest::endIfHead,
                AnswerTest::endIfThereIsNoPage,
                AnswerTest::endIfItsBodyIsEmpty,
                AnswerTest::bodyIsToBeSent);
    }

    /** What is said, and how many streams are open then. */
    private static String answer(String method, String path) {
        Talk talk = Talk.withPages();
        talk.ask(1, Talk.join(Talk.field(":m", method), Talk.field(":p", path)));
        return talk.told() + " | " + talk.about(1);
    }

    private static void aPage() {
        Check.of("Terms, TO ANSWER", "HEADERS with DONE and a block: 134 (128 + 6) for a page");
        Check.same("GET /", answer("GET", "/"), "HEADERS 4 of 1: 134; DATA 0 of 1: 7*40 | 1");
        Check.same("HEAD /", answer("HEAD", "/"), "HEADERS 5 of 1: 134 | 0");
    }

    private static void noPage() {
        Check.of("Terms, TO ANSWER", "135, if there is none");
        for (String path : new String[] {"/x", "", "a", "e", "//", "/aa", "/A", "/abcdefgh", "/e/"}) {
            Check.same("GET " + path, answer("GET", path), NO_PAGE);
            Check.same("HEAD " + path, answer("HEAD", path), NO_PAGE);
        }
    }

    private static void anotherMethod() {
        Check.of("Terms, TO ANSWER", "6, 3, 52, 48, 53 if :m is another one");
        for (String method : new String[] {"PUT", "", "get", "GETS", "GE", "HEADS", "HEA", "head", "TEG"}) {
            Check.same(method + " /", answer(method, "/"), OTHER_METHOD);
            Check.same(method + " /e", answer(method, "/e"), OTHER_METHOD);
            Check.same(method + " of no page", answer(method, "/x"), OTHER_METHOD);
        }
    }

    private static void endIfHead() {
        Check.of("Terms, TO ANSWER", "With END, if :m is HEAD");
        Talk talk = Talk.withPages().ask(1, Talk.HEAD, Talk.ROOT);
        Check.same("HEAD /", talk.told() + " " + talk.streamText(1), "HEADERS 5 of 1: 134 not open");
        Check.same("nothing is sent behind", talk.settings(4, 255).told(), "SETTINGS 1 of 0:");
        Check.same("the window is as it was", talk.about(2), 100);
    }

    private static void endIfThereIsNoPage() {
        Check.of("Terms, TO ANSWER", "or there is no page");
        Talk talk = Talk.withPages().ask(1, Talk.getting('x'));
        Check.same("GET /x", talk.told() + " " + talk.streamText(1), "HEADERS 5 of 1: 135 not open");
        talk.ask(3, Talk.join(Talk.field(":m", "PUT"), Talk.field(":p", "/")));
        Check.same("PUT /", talk.told() + " " + talk.streamText(3), "HEADERS 5 of 3: 6 3 52 48 53 not open");
    }

    private static void endIfItsBodyIsEmpty() {
        Check.of("Terms, TO ANSWER", "or its body is empty: the stream is over");
        Talk talk = Talk.withPages().ask(1, Talk.getting('e'));
        Check.same("GET /e", talk.told() + " " + talk.streamText(1), "HEADERS 5 of 1: 134 not open");
        Talk one = Talk.begun();
        one.page('o', 0, 1, 9);
        one.ask(1, Talk.getting('o'));
        Check.same("a body of 1", one.told() + " " + one.streamText(1), "HEADERS 4 of 1: 134; DATA 1 of 1: 9 not open");
    }

    private static void bodyIsToBeSent() {
        Check.of("Terms, TO ANSWER", "otherwise its body is to be sent");
        Talk talk = Talk.withPages().settings(4, 0).hushed().ask(1, Talk.getting('a'));
        Check.same("GET /a", talk.told() + " " + talk.streamText(1), "HEADERS 4 of 1: 134 0 60 0 1");
    }
}
