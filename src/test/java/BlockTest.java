/** Promise 3: how a block is read, and the entries that come and go by it. */
public final class BlockTest {
    public static void main(String[] args) {
        cannotBeRead();
        canBeRead();
        entriesCome();
        oldestGo();
        sizeChanges();
        namesOfEntriesThatGo();
        whatStaysOfUnreadBlocks();
        Check.end();
    }

    private static int codeOf(int... block) {
        Talk talk = Talk.begun();
        talk.askOpen(1, block);
        return talk.server.away();
    }

    private static void cannotBeRead() {
        Check.same("entry 0", codeOf(128), 9);
        Check.same("entry 8 that is not there", codeOf(136), 9);
        Check.same("entry 127", codeOf(255), 9);
        Check.same("64 + 8 that is not there", codeOf(72, 1, 'x'), 9);
        Check.same("64 + 63", codeOf(127, 1, 'x'), 9);
        Check.same("0 + 8 that is not there", codeOf(8, 1, 'x'), 9);
        for (int first = 16; first < 32; first++) {
            Check.same("first byte " + first, codeOf(first, 1, 'x', 1, 'x'), 9);
        }
        for (int first = 57; first < 64; first++) {
            Check.same("first byte " + first, codeOf(first), 9);
        }
        Check.same("SIZE behind a field", codeOf(129, 32 + 24), 9);
        Check.same("a name of length 0", codeOf(0, 0, 1, 'x'), 9);
        Check.same("a new name of length 0", codeOf(64, 0, 1, 'x'), 9);
        Check.same("a name of length 21", codeOf(Talk.field("abcdefghijklmnopqrstu", "")), 9);
        Check.same("a value of length 21", codeOf(Talk.field("a", "abcdefghijklmnopqrstu")), 9);
        Check.same("a length of 255", codeOf(Talk.join(new int[] {4, 255}, Talk.times(90, 'x'))), 9);
        for (int bad : new int[] {0, 10, 32, 127, 128, 255}) {
            Check.same("byte " + bad + " in a value", codeOf(4, 2, 'x', bad), 9);
            Check.same("byte " + bad + " in a name", codeOf(0, 2, bad, 'x', 0), 9);
        }
        Check.same("no name", codeOf(0), 9);
        Check.same("a name too short", codeOf(0, 3, 'a', 'b'), 9);
        Check.same("no value", codeOf(0, 1, 'a'), 9);
        Check.same("no value behind an entry", codeOf(68), 9);
        Check.same("a value too short", codeOf(4, 2, 'a'), 9);
        Check.same("the last of 100", codeOf(Talk.join(Talk.times(99, 132), new int[] {128})), 9);
        Check.same("no value behind 100", codeOf(Talk.join(Talk.times(99, 132), new int[] {68})), 9);
        Check.same("no name behind 100", codeOf(Talk.join(Talk.times(99, 132), new int[] {0})), 9);

        Talk before = Talk.begun();
        before.askOpen(1, 4, 5, 'x', 'x', 'x', 'x', 'x').askOpen(3, 4, 3, 'a');
        Check.same("bytes of the block before are not there", before.server.away(), 9);
    }

    private static void canBeRead() {
        Check.same("nothing", codeOf(), 0);
        for (int i = 1; i <= 7; i++) {
            Check.same("128 + " + i, codeOf(128 + i), 0);
            Check.same("64 + " + i, codeOf(64 + i, 0), 0);
            Check.same("0 + " + i, codeOf(i, 1, '!'), 0);
        }
        Check.same("the least and the greatest byte", codeOf(0, 2, 33, 126, 2, 126, 33), 0);
        Check.same("texts of 20", codeOf(Talk.field("abcdefghijklmnopqrst", "abcdefghijklmnopqrst")), 0);
        Check.same("an empty value", codeOf(Talk.field("a", "")), 0);
        Check.same("SIZE 0", codeOf(32), 0);
        Check.same("SIZE 24", codeOf(56), 0);
        Check.same("SIZE twice", codeOf(32, 56, 129), 0);
    }

    private static void entriesCome() {
        Talk talk = Talk.begun();
        talk.askOpen(1, Talk.join(Talk.entering("a", "b"), new int[] {67, 1, '/'}, Talk.field("z", "z")));
        Check.same("two came, the third did not", talk.server.about(5), 2);
        Check.same("they take", talk.server.about(6), 4 + 5);
        Check.same("the newest", talk.entryText(8), ":p=/");
        Check.same("the older", talk.entryText(9), "a=b");
        talk.askOpen(3, 72, 1, 'q');
        Check.same("the name of one that came", talk.entryText(8), ":p=q");
        Check.same("the oldest", talk.entryText(10), "a=b");
        talk.askOpen(5, 10, 1, 'c');
        Check.same("0 + 10 is no new entry", talk.server.about(5), 3);
        Check.same("and could be read", talk.server.away(), 0);

        Talk within = Talk.begun();
        within.ask(1, 65, 3, 'P', 'U', 'T', 131, 132, 136);
        Check.same("an entry of the same block is there at once", within.told(), "RESET 0 of 1: 1");
        within.ask(3, 136, 131);
        Check.same("and in the next", within.told(), "HEADERS 5 of 3: 6 3 52 48 53");
    }

    private static void oldestGo() {
        Talk talk = Talk.begun();
        for (int k = 0; k < 8; k++) {
            talk.askOpen(2 * k + 1, Talk.entering("" + (char) ('a' + k), ""));
        }
        Check.same("eight of 3 are 24", talk.server.about(5) + " " + talk.server.about(6), "8 24");
        Check.same("the oldest", talk.entryText(15), "a=");
        talk.askOpen(17, 15, 1, 'x').askOpen(19, 143).askOpen(21, 79, 0);
        Check.same("entry 15 can be read in all ways", talk.server.away(), 0);
        Check.same("the newest has its name", talk.entryText(8), "a=");
        talk.askOpen(23, Talk.entering("i", ""));
        Check.same("eight still", talk.server.about(5) + " " + talk.server.about(6), "8 24");
        Check.same("the oldest went", talk.entryText(15), "c=");
        Check.same("the newest", talk.entryText(8), "i=");
        talk.askOpen(25, Talk.entering("k", "1"));
        Check.same("two go for one of 4", talk.server.about(5) + " " + talk.server.about(6), "7 22");
        Check.same("then the oldest", talk.entryText(14), "e=");
        talk.askOpen(27, Talk.entering("abcdefghijk", "abcdefghijk"));
        Check.same("all go for one of 24", talk.server.about(5) + " " + talk.server.about(6), "1 24");
        Check.same("which comes", talk.entryText(8), "abcdefghijk=abcdefghijk");
        talk.askOpen(29, Talk.entering("abcdefghijk", "abcdefghijkl"));
        Check.same("one of 25 does not come, and all go", talk.server.about(5) + " " + talk.server.about(6), "0 0");
        Check.same("it could be read", talk.server.away(), 0);
    }

    private static void sizeChanges() {
        Talk talk = Talk.begun();
        talk.askOpen(1, Talk.join(Talk.entering("a", ""), Talk.entering("b", "1"), Talk.entering("c", "12")));
        Check.same("12", talk.state().substring(11), "24 3 12 15");
        talk.askOpen(3, 32 + 12);
        Check.same("SIZE 12", talk.server.about(4) + " " + talk.server.about(5), "12 3");
        talk.askOpen(5, 32 + 11);
        Check.same("SIZE 11: the oldest goes", talk.server.about(5) + " " + talk.server.about(6), "2 9");
        Check.same("the newest stays", talk.entryText(8), "c=12");
        Check.same("the older", talk.entryText(9), "b=1");
        talk.askOpen(7, Talk.entering("d", ""));
        Check.same("one more goes", talk.server.about(5) + " " + talk.server.about(6), "2 8");
        talk.askOpen(9, 32 + 4, 32 + 20);
        Check.same("the least counts", talk.server.about(4) + " " + talk.server.about(5), "20 1");
        Check.same("d stays", talk.entryText(8), "d=");
        talk.askOpen(11, 32);
        Check.same("SIZE 0", talk.server.about(4) + " " + talk.server.about(5) + " " + talk.server.about(6), "0 0 0");
        talk.askOpen(13, Talk.entering("a", ""));
        Check.same("nothing comes", talk.server.about(5), 0);
        talk.askOpen(15, 32 + 3, 64, 1, 'a', 0);
        Check.same("one of 3 comes at SIZE 3", talk.server.about(5), 1);
        Check.same("no away", talk.server.away(), 0);
    }

    private static void namesOfEntriesThatGo() {
        Talk talk = Talk.begun();
        talk.askOpen(1, Talk.entering("abcdefghij", "abcdefgh"));
        Check.same("20", talk.server.about(6), 20);
        talk.askOpen(3, 72, 1, 'x');
        Check.same("the entry goes, its name stays", talk.entryText(8), "abcdefghij=x");
        Check.same("alone", talk.server.about(5) + " " + talk.server.about(6), "1 13");
    }

    private static void whatStaysOfUnreadBlocks() {
        Talk talk = Talk.begun();
        talk.askOpen(1, Talk.join(new int[] {32 + 10}, Talk.entering("a", "b"), new int[] {128}));
        Check.same("what stood before it was read", talk.server.about(4) + " " + talk.entryText(8), "10 a=b");
        Talk half = Talk.begun();
        half.askOpen(1, 64, 1, 'a', 2, 'b');
        Check.same("half a field", half.server.about(5), 0);
    }
}
