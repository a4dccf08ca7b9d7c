/** Promise 2: page. */
public final class PageTest {
    public static void main(String[] args) {
        numbers();
        paths();
        wrongPaths();
        wrongBodies();
        fullSite();
        duringTalk();
        Check.end();
    }

    private static int word(String letters) {
        int word = 0;
        for (int k = 0; k < letters.length(); k++) {
            word = word << 8 | letters.charAt(k);
        }
        return word;
    }

    private static void numbers() {
        PageServer server = new PageServer();
        for (int k = 0; k < 8; k++) {
            Check.same("page " + k, server.page('a' + k, 0, k, k), k);
        }
    }

    private static void paths() {
        expectPath("", "", "/");
        expectPath("a", "", "/a");
        expectPath("z", "", "/z");
        expectPath("xyz", "", "/xyz");
        expectPath("abcd", "", "/abcd");
        expectPath("abcd", "e", "/abcde");
        expectPath("abcd", "efg", "/abcdefg");
    }

    private static void expectPath(String path, String more, String text) {
        Talk talk = Talk.begun();
        talk.server.page(word(path), word(more), 3, 200);
        talk.ask(1, Talk.join(new int[] {Talk.GET, 3}, Talk.text(text)));
        Check.same(text, talk.told(), "HEADERS 4 of 1: 134; DATA 1 of 1: 200*3");
        talk.ask(3, Talk.join(new int[] {Talk.GET, 3}, Talk.text(text + "a")));
        Check.same(text + "a", talk.told(), "HEADERS 5 of 3: 135");
    }

    private static void wrongPaths() {
        wrong("A", word("A"), 0);
        wrong("letter below a", word("a`"), 0);
        wrong("letter above z", word("a{"), 0);
        wrong("1", '1', 0);
        wrong("255", 255, 0);
        wrong("highest byte 255", 0xff616161, 0);
        wrong("0 behind letters", word("abc") << 8, 0);
        wrong("0 between letters", 0x61006161, 0);
        wrong("0 behind letters of more", word("abcd"), 0x6100);
        wrong("no letter in more", word("abcd"), 0x6141);
        wrong("four in more", word("abcd"), word("abcd"));
        wrong("three and one", word("abc"), word("a"));
        wrong("none and one", 0, word("a"));
        wrong("-1", -1, 0);
        wrong("-1 in more", word("abcd"), -1);
    }

    private static void wrong(String what, int path, int more) {
        PageServer server = new PageServer();
        Check.throwsArgument(what, () -> server.page(path, more, 1, 1));
        Check.same(what + " changes nothing", server.page(0, 0, 1, 1), 0);
    }

    private static void wrongBodies() {
        PageServer server = new PageServer();
        Check.throwsArgument("size -1", () -> server.page('a', 0, -1, 1));
        Check.throwsArgument("size 61", () -> server.page('a', 0, 61, 1));
        Check.throwsArgument("b -1", () -> server.page('a', 0, 1, -1));
        Check.throwsArgument("b 256", () -> server.page('a', 0, 1, 256));
        Check.same("the least", server.page('a', 0, 0, 0), 0);
        Check.same("the most", server.page('b', 0, 60, 255), 1);
        Check.throwsArgument("such a path", () -> server.page('a', 0, 5, 5));
        Check.same("they changed nothing", server.page('c', 0, 1, 1), 2);
    }

    private static void fullSite() {
        PageServer server = new PageServer();
        for (int k = 0; k < 8; k++) {
            server.page('a' + k, 0, 1, 1);
        }
        Check.throwsState("a ninth", () -> server.page('z', 0, 1, 1));
        Check.throwsArgument("a ninth with such a path", () -> server.page('a', 0, 1, 1));
        Check.throwsArgument("a ninth with a wrong size", () -> server.page('z', 0, 61, 1));
        Check.throwsArgument("a ninth with a wrong path", () -> server.page('Z', 0, 1, 1));
        server.restart();
        Check.throwsState("a ninth after restart", () -> server.page('z', 0, 1, 1));
    }

    private static void duringTalk() {
        Talk talk = Talk.begun();
        talk.askOpen(1, Talk.getting('n'));
        talk.server.page('n', 0, 2, 8);
        talk.frame(Talk.DATA, Talk.END, 1);
        Check.same("a page that came before the answer", talk.told(),
                "HEADERS 4 of 1: 134; DATA 1 of 1: 8 8");
    }
}
