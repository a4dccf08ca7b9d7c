/** Promise 2: page, and the site of 'Terms'. */
public final class PageTest {
    public static void main(String[] args) {
        Check.run(PageTest::mostPages,
                PageTest::leastAndMostBody,
                PageTest::anyByte,
                PageTest::shortestAndLongestPath,
                PageTest::lettersInOrder,
                PageTest::answersItsNumber,
                PageTest::byteThatIsNoLetter,
                PageTest::zeroBehindLetters,
                PageTest::fourLettersInMore,
                PageTest::tooFewLettersBeforeMore,
                PageTest::wrongSize,
                PageTest::wrongByte,
                PageTest::suchAPath,
                PageTest::ninthPage,
                PageTest::wrongArgumentOnFullSite,
                PageTest::refusalChangesNothing,
                PageTest::pageDuringTalk);
    }

    private static int word(String letters) {
        int word = 0;
        for (int k = 0; k < letters.length(); k++) {
            word = word << 8 | letters.charAt(k);
        }
        return word;
    }

    /** What is said when a path is asked for. */
    private static String got(Talk talk, int stream, String path) {
        return talk.ask(stream, Talk.join(new int[] {Talk.GET, 3}, Talk.text(path))).told();
    }

    private static void refused(String what, int path, int more, int size, int b) {
        Talk talk = new Talk();
        talk.page('o', 0, 1, 1);
        String before = talk.all();
        Check.throwsArgument(what, () -> talk.page(path, more, size, b));
        Check.same(what + ", then all", talk.all(), before);
        Check.same(what + ", then the next number", talk.page('n', 0, 1, 1), 1);
    }

    private static void mostPages() {
        Check.of("Terms, THE SITE", "at most 8 pages");
        Talk talk = Talk.begun();
        for (int k = 0; k < 8; k++) {
            talk.page('a' + k, 0, 1 + k, 10 * k);
        }
        Check.throwsState("a ninth", () -> talk.page('i', 0, 1, 1));
        for (int k = 0; k < 8; k++) {
            String size = k == 0 ? "" : k == 1 ? " 10" : "*" + (1 + k);
            Check.same("page " + k + " of 8", got(talk, 1 + 2 * k, "/" + (char) ('a' + k)),
                    "HEADERS 4 of " + (1 + 2 * k) + ": 134; DATA 1 of " + (1 + 2 * k) + ": " + 10 * k + size);
        }
        Check.same("the ninth is not there", got(talk, 17, "/i"), "HEADERS 5 of 17: 135");
    }

    private static void leastAndMostBody() {
        Check.of("Terms, THE SITE", "a body of 0 to 60 bytes");
        Talk talk = Talk.begun();
        Check.same("0", talk.page('a', 0, 0, 9), 0);
        Check.same("60", talk.page('b', 0, 60, 9), 1);
        talk.settings(4, 255).hushed();
        Check.same("a body of 0", got(talk, 1, "/a"), "HEADERS 5 of 1: 134");
        Check.same("a body of 60", got(talk, 3, "/b"), "HEADERS 4 of 3: 134; DATA 1 of 3: 9*60");
    }

    private static void anyByte() {
        Check.of("Promise 2", "its body size bytes b");
        Talk talk = Talk.begun();
        talk.page('a', 0, 3, 0);
        talk.page('b', 0, 2, 255);
        talk.page('c', 0, 1, 128);
        Check.same("b 0", got(talk, 1, "/a"), "HEADERS 4 of 1: 134; DATA 1 of 1: 0*3");
        Check.same("b 255", got(talk, 3, "/b"), "HEADERS 4 of 3: 134; DATA 1 of 3: 255 255");
        Check.same("b 128", got(talk, 5, "/c"), "HEADERS 4 of 5: 134; DATA 1 of 5: 128");
    }

    private static void shortestAndLongestPath() {
        Check.of("Terms, THE SITE", "A PATH is / and 0 to 7 letters a .. z");
        expectPath("", "", "/");
        expectPath("a", "", "/a");
        expectPath("z", "", "/z");
        expectPath("az", "", "/az");
        expectPath("zaz", "", "/zaz");
        expectPath("abcd", "", "/abcd");
        expectPath("abcd", "z", "/abcdz");
        expectPath("zzzz", "aa", "/zzzzaa");
        expectPath("zyxw", "vut", "/zyxwvut");
    }

    private static void expectPath(String path, String more, String text) {
        Talk talk = Talk.begun();
        talk.page(word(path), word(more), 3, 200);
        Check.same(text, got(talk, 1, text), "HEADERS 4 of 1: 134; DATA 1 of 1: 200*3");
        Check.same(text + "a", got(talk, 3, text + "a"), "HEADERS 5 of 3: 135");
        Check.same("a part of " + text, got(talk, 5, text.substring(0, text.length() - 1)), "HEADERS 5 of 5: 135");
    }

    private static void lettersInOrder() {
        Check.of("Promise 2", "four in one, the highest byte first, bytes 0 before them; and those of more behind");
        Talk talk = Talk.begun();
        talk.page(0x61626364, 0x00656667, 1, 5);
        Check.same("/abcdefg", got(talk, 1, "/abcdefg"), "HEADERS 4 of 1: 134; DATA 1 of 1: 5");
        Check.same("/efgabcd", got(talk, 3, "/efgabcd"), "HEADERS 5 of 3: 135");
        Check.same("/dcbagfe", got(talk, 5, "/dcbagfe"), "HEADERS 5 of 5: 135");
        talk.page(0x00006869, 0, 1, 6);
        Check.same("/hi", got(talk, 7, "/hi"), "HEADERS 4 of 7: 134; DATA 1 of 7: 6");
        Check.same("/ih", got(talk, 9, "/ih"), "HEADERS 5 of 9: 135");
    }

    private static void answersItsNumber() {
        Check.of("Promise 2", "Answers its number");
        Talk talk = new Talk();
        for (int k = 0; k < 8; k++) {
            Check.same("page " + k, talk.page('h' - k, 0, k, k), k);
        }
    }

    private static void byteThatIsNoLetter() {
        Check.of("Promise 2", "when a byte is neither a letter a .. z nor 0 before all letters of its int");
        for (int bad : new int[] {1, ' ', '/', '1', 'A', 'Z', 'a' - 1, 'z' + 1, 127, 128, 'a' + 128, 255}) {
            refused(bad + " alone", bad, 0, 1, 1);
            refused(bad + " as the highest", bad << 24 | 0x616161, 0, 1, 1);
            refused(bad + " as the second", 0x61006161 | bad << 16, 0, 1, 1);
            refused(bad + " as the lowest", 0x61616100 | bad, 0, 1, 1);
            refused(bad + " in more", word("abcd"), 0x6100 | bad, 1, 1);
            refused(bad + " in front in more", word("abcd"), bad << 16 | 0x6161, 1, 1);
            refused(bad + " as the highest of more", word("abcd"), bad << 24, 1, 1);
        }
    }

    private static void zeroBehindLetters() {
        Check.of("Promise 2", "nor 0 before all letters of its int");
        refused("0 as the lowest", 0x61616100, 0, 1, 1);
        refused("0 between", 0x00610061, 0, 1, 1);
        refused("0 as the second", 0x61006161, 0, 1, 1);
        refused("a letter and three 0", 0x61000000, 0, 1, 1);
        refused("0 as the lowest of more", word("abcd"), 0x6100, 1, 1);
        refused("0 between in more", word("abcd"), 0x610061, 1, 1);
    }

    private static void fourLettersInMore() {
        Check.of("Promise 2", "more has four letters");
        refused("four in both", word("abcd"), word("abcd"), 1, 1);
        refused("four in more alone", 0, word("abcd"), 1, 1);
        Check.same("three in more", new Talk().page(word("abcd"), word("abc"), 1, 1), 0);
    }

    private static void tooFewLettersBeforeMore() {
        Check.of("Promise 2", "path fewer than four though more has some");
        refused("three and one", word("abc"), word("a"), 1, 1);
        refused("three and three", word("abc"), word("abc"), 1, 1);
        refused("one and one", word("a"), word("a"), 1, 1);
        refused("none and one", 0, word("a"), 1, 1);
        Check.same("four and one", new Talk().page(word("abcd"), word("a"), 1, 1), 0);
        Check.same("three and none", new Talk().page(word("abc"), 0, 1, 1), 0);
    }

    private static void wrongSize() {
        Check.of("Promise 2", "size is not 0 .. 60");
        for (int size : new int[] {-1, 61, 256, 256 + 60, Integer.MIN_VALUE, Integer.MAX_VALUE}) {
            refused("size " + size, 'a', 0, size, 1);
        }
    }

    private static void wrongByte() {
        Check.of("Promise 2", "b not 0 .. 255");
        for (int b : new int[] {-1, 256, -256, 65536, Integer.MIN_VALUE, Integer.MAX_VALUE}) {
            refused("b " + b, 'a', 0, 1, b);
            refused("b " + b + " of an empty body", 'a', 0, 0, b);
        }
    }

    private static void suchAPath() {
        Check.of("Promise 2", "or there is such a path");
        Talk talk = Talk.begun();
        talk.page(0, 0, 1, 11);
        talk.page(word("abcd"), 0, 1, 12);
        talk.page(word("abcd"), word("abc"), 1, 13);
        Check.throwsArgument("/", () -> talk.page(0, 0, 2, 99));
        Check.throwsArgument("/abcd", () -> talk.page(word("abcd"), 0, 2, 99));
        Check.throwsArgument("/abcdabc", () -> talk.page(word("abcd"), word("abc"), 2, 99));
        Check.same("another in its last letter", talk.page(word("abcd"), word("abd"), 1, 14), 3);
        Check.same("another without its last letter", talk.page(word("abcd"), word("ab"), 1, 15), 4);
        Check.same("the body is the first one's", got(talk, 1, "/abcd"), "HEADERS 4 of 1: 134; DATA 1 of 1: 12");
    }

    private static Talk fullSite() {
        Talk talk = new Talk();
        for (int k = 0; k < 8; k++) {
            talk.page('a' + k, 0, 1, k);
        }
        return talk;
    }

    private static void ninthPage() {
        Check.of("Promise 2", "IllegalStateException when there are 8");
        Talk talk = fullSite();
        String before = talk.all();
        Check.throwsState("a ninth", () -> talk.page('z', 0, 1, 1));
        Check.throwsState("/ as a ninth", () -> talk.page(0, 0, 0, 0));
        Check.same("all", talk.all(), before);
        talk.begin();
        Check.same("it is not there", got(talk, 1, "/z"), "HEADERS 5 of 1: 135");
        Check.same("the eighth is", got(talk, 3, "/h"), "HEADERS 4 of 3: 134; DATA 1 of 3: 7");
    }

    /** The document names IllegalArgumentException first, and without 'there are fewer than 8'. */
    private static void wrongArgumentOnFullSite() {
        Check.of("Promise 2", "Throws, changing nothing: IllegalArgumentException when");
        Talk talk = fullSite();
        Check.throwsArgument("a byte", () -> talk.page('Z', 0, 1, 1));
        Check.throwsArgument("four in more", () -> talk.page(word("zzzz"), word("zzzz"), 1, 1));
        Check.throwsArgument("fewer than four", () -> talk.page('z', 'z', 1, 1));
        Check.throwsArgument("size", () -> talk.page('z', 0, 61, 1));
        Check.throwsArgument("b", () -> talk.page('z', 0, 1, 256));
        Check.throwsArgument("such a path", () -> talk.page('a', 0, 1, 1));
    }

    private static void refusalChangesNothing() {
        Check.of("Promise 2", "Throws, changing nothing");
        Talk talk = Talk.withPages();
        talk.ask(1, Talk.getting('a')).askOpen(3, Talk.getting('b')).bytes(4, 6, 0, 0, 9);
        String before = talk.all();
        Check.throwsArgument("a path that is there", () -> talk.page('a', 0, 5, 9));
        Check.throwsArgument("a size", () -> talk.page('x', 0, 61, 9));
        Check.same("all", talk.all(), before);
        talk.hushed().bytes(8, 7, 6);
        Check.same("the frame goes on", talk.told(), "PING 1 of 0: 9 8 7 6");
        talk.frame(Talk.DATA, Talk.END, 3);
        Check.same("the other page is as it was", talk.told(), "HEADERS 4 of 3: 134; DATA 0 of 3: 2*40");
        Check.same("no page came", got(talk, 5, "/x"), "HEADERS 5 of 5: 135");
        Check.same("the next number", talk.page('x', 0, 1, 1), 4);
    }

    private static void pageDuringTalk() {
        Check.of("Promise 2", "A page more");
        Talk talk = Talk.begun();
        talk.askOpen(1, Talk.getting('n'));
        talk.page('n', 0, 2, 8);
        talk.frame(Talk.DATA, Talk.END, 1);
        Check.same("before the answer", talk.told(), "HEADERS 4 of 1: 134; DATA 1 of 1: 8 8");
    }
}
