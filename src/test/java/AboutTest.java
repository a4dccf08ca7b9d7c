/** Promise 9: about. */
public final class AboutTest {
    public static void main(String[] args) {
        Check.run(AboutTest::highestStream,
                AboutTest::howManyAreOpen,
                AboutTest::connectionsWindow,
                AboutTest::longestFrame,
                AboutTest::size,
                AboutTest::howManyEntries,
                AboutTest::whatEntriesTake,
                AboutTest::bytesOfLatestBlock,
                AboutTest::pieceThatDoesNotCount,
                AboutTest::blockThatDoesNotBegin,
                AboutTest::anotherWhat);
    }

    private static void highestStream() {
        Check.of("Promise 9", "The highest stream (what 0)");
        Talk talk = Talk.withPages();
        Check.same("none", talk.about(0), 0);
        Check.same("one that is over", talk.ask(5, Talk.getting('e')).about(0), 5);
        Check.same("one that was refused", talk.ask(9).about(0), 9);
        Check.same("the greatest", talk.ask(255, Talk.getting('a')).about(0), 255);
    }

    private static void howManyAreOpen() {
        Check.of("Promise 9", "how many are open (1)");
        Talk talk = Talk.withPages();
        for (int k = 0; k <= 4; k++) {
            Check.same(k + " are open", talk.about(1), k);
            talk.askOpen(1 + 2 * k, Talk.getting('a'));
        }
        Check.same("no fifth", talk.about(1), 4);
        talk.frame(Talk.RESET, 0, 3, 0);
        Check.same("one was closed", talk.about(1), 3);
    }

    private static void connectionsWindow() {
        Check.of("Promise 9", "the connection's window (2)");
        Talk talk = Talk.withPages();
        Check.same("at first", talk.about(2), 100);
        Check.same("40 are sent", talk.ask(1, Talk.getting('a')).about(2), 60);
        Check.same("to 30000", talk.widen(0, 29940).about(2), 30000);
        Talk none = Talk.withPages().settings(4, 255).ask(1, Talk.getting('a')).ask(3, Talk.getting('b'));
        Check.same("all are sent", none.about(2), 0);
    }

    private static void longestFrame() {
        Check.of("Promise 9", "the LONGEST frame (3)");
        Check.same("at first", new Talk().about(3), 64);
        Check.same("the least", Talk.begun().settings(5, 16).about(3), 16);
        Check.same("the greatest", Talk.begun().settings(5, 255).about(3), 255);
    }

    private static void size() {
        Check.of("Promise 9", "SIZE (4)");
        Check.same("at first", new Talk().about(4), 24);
        Check.same("the least", Talk.begun().askOpen(1, 32).about(4), 0);
        Check.same("the greatest", Talk.begun().askOpen(1, 32, 32 + 24).about(4), 24);
    }

    private static void howManyEntries() {
        Check.of("Promise 9", "how many entries came and are there (5)");
        Talk talk = Talk.begun();
        Check.same("none", talk.about(5), 0);
        talk.askOpen(1, Talk.join(Talk.entering("a", ""), Talk.entering("b", "")));
        Check.same("two", talk.about(5), 2);
        Check.same("one went", talk.askOpen(3, 32 + 3).about(5), 1);
        Check.same("all went", talk.askOpen(5, 32).about(5), 0);
    }

    private static void whatEntriesTake() {
        Check.of("Promise 9", "what they take (6)");
        Talk talk = Talk.begun();
        Check.same("none", talk.about(6), 0);
        talk.askOpen(1, Talk.join(Talk.entering("a", ""), Talk.entering("b", "12")));
        Check.same("3 and 5", talk.about(6), 8);
        Check.same("one went", talk.askOpen(3, 32 + 7).about(6), 5);
        Check.same("all went", talk.askOpen(5, 32).about(6), 0);
        Check.same("the most", Talk.begun().askOpen(1, Talk.entering("ab", "12345678901234567890")).about(6), 24);
    }

    private static void bytesOfLatestBlock() {
        Check.of("Promise 9", "how many bytes of the latest block there are (7");
        Talk talk = Talk.withPages();
        Check.same("no block", talk.about(7), 0);
        talk.frame(Talk.HEADERS, 0, 1, 129).frame(Talk.MORE, 0, 1, 131, 132);
        Check.same("one that is coming", talk.about(7), 3);
        talk.frame(Talk.MORE, Talk.DONE, 1);
        Check.same("one that is over", talk.about(7), 3);
        talk.ping().frame(Talk.DATA, 0, 1, 1, 2, 3, 4, 5);
        Check.same("other frames behind it", talk.about(7), 3);
        talk.frame(Talk.HEADERS, Talk.END, 1);
        Check.same("a new one without bytes", talk.about(7), 0);
        Talk most = Talk.begun().askOpen(1, Talk.times(100, 132));
        Check.same("the most", most.about(7), 100);
        Check.same("one that cannot be read", Talk.begun().askOpen(1, 132, 128, 132).about(7), 3);
        Talk half = Talk.begun().bytes(3, Talk.HEADERS, Talk.DONE, 1, 129, 131);
        Check.same("a piece that is not whole", half.about(7), 0);
    }

    private static void pieceThatDoesNotCount() {
        Check.of("Promise 9", "a piece by which it would be longer than 100 does not count");
        Talk more = Talk.begun().frame(Talk.HEADERS, 0, 1, Talk.times(60, 132)).frame(Talk.MORE, 0, 1, Talk.times(41, 132));
        Check.same("60 and 41", more.about(7), 60);
        Talk full = Talk.begun().frame(Talk.HEADERS, 0, 1, Talk.times(60, 132)).frame(Talk.MORE, 0, 1, Talk.times(40, 132));
        Check.same("60 and 40", full.about(7), 100);
        Check.same("and 1", full.frame(Talk.MORE, 0, 1, 132).about(7), 100);
        Talk first = Talk.begun().askOpen(1, 129, 131).frame(Talk.HEADERS, 0, 3, Talk.times(101, 132));
        Check.same("101 as the first piece of a new block", first.about(7), 0);
    }

    private static void blockThatDoesNotBegin() {
        Check.of("Promise 9", "how many bytes of the latest block there are (7");
        Talk talk = Talk.begun().askOpen(1, 129, 131, 132).frame(Talk.HEADERS, 0, 2, 129);
        Check.same("HEADERS of an even stream begin none", talk.about(7), 3);
        Talk over = Talk.begun().ask(1, 129, 131, 132).frame(Talk.HEADERS, 0, 1, 129);
        Check.same("HEADERS of one that is over begin none", over.about(7), 3);
    }

    private static void anotherWhat() {
        Check.of("Promise 9", "NONE for another what");
        Talk talk = Talk.begun();
        Check.same("NONE", PageServer.NONE, -1);
        for (int what : new int[] {-1, 8, 9, 256, 1 << 16, Integer.MIN_VALUE, Integer.MAX_VALUE}) {
            Check.same("about " + what, talk.about(what), PageServer.NONE);
        }
    }
}
