/** Promise 3: how a request is answered. */
public final class AnswerTest {
    public static void main(String[] args) {
        Check.same("GET of a page", answer("GET", "/"), "HEADERS 4 of 1: 134; DATA 0 of 1: 7*40 | 1");
        Check.same("GET of an empty page", answer("GET", "/e"), "HEADERS 5 of 1: 134 | 0");
        Check.same("GET of no page", answer("GET", "/x"), "HEADERS 5 of 1: 135 | 0");
        Check.same("HEAD of a page", answer("HEAD", "/"), "HEADERS 5 of 1: 134 | 0");
        Check.same("HEAD of an empty page", answer("HEAD", "/e"), "HEADERS 5 of 1: 134 | 0");
        Check.same("HEAD of no page", answer("HEAD", "/x"), "HEADERS 5 of 1: 135 | 0");
        String other = "HEADERS 5 of 1: 6 3 52 48 53 | 0";
        Check.same("PUT of a page", answer("PUT", "/"), other);
        Check.same("PUT of no page", answer("PUT", "/x"), other);
        Check.same("get", answer("get", "/"), other);
        Check.same("GETS", answer("GETS", "/"), other);
        Check.same("no method", answer("", "/"), other);
        Check.same("no path", answer("GET", ""), "HEADERS 5 of 1: 135 | 0");
        Check.same("a path without /", answer("GET", "e"), "HEADERS 5 of 1: 135 | 0");
        Check.same("a path with more", answer("GET", "/ee"), "HEADERS 5 of 1: 135 | 0");
        Check.same("a path in other letters", answer("GET", "/E"), "HEADERS 5 of 1: 135 | 0");
        Check.end();
    }

    private static String answer(String method, String path) {
        Talk talk = Talk.withPages();
        talk.ask(1, Talk.join(Talk.field(":m", method), Talk.field(":p", path)));
        return talk.told() + " | " + talk.server.about(1);
    }
}
