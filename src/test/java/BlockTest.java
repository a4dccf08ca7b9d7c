/** Promise 3: how a block is read, in 'A BLOCK' of 'Terms'. */
public final class BlockTest {
    private static final int BAD = 9;

    public static void main(String[] args) {
        Check.run(BlockTest::emptyBlock,
                BlockTest::fieldOfEntry,
                BlockTest::noSuchEntry,
                BlockTest::becomesNewEntry,
                BlockTest::noSuchNameOfNewEntry,
                BlockTest::becomesNoEntry,
                BlockTest::noSuchNameOfNoEntry,
                BlockTest::nameBeyondFifteen,
                BlockTest::sizeBecomes,
                BlockTest::sizeTooLarge,
                BlockTest::sizeBehindField,
                BlockTest::nameIsString,
                BlockTest::emptyName,
                BlockTest::emptyValue,
                BlockTest::longestString,
                BlockTest::tooLongString,
                BlockTest::leastAndGreatestByte,
                BlockTest::wrongByteInString,
                BlockTest::notAllBytes,
                BlockTest::bytesOfTheBlockBefore,
                BlockTest::blockUpToItsLastByte,
                BlockTest::readFromTheFront);
    }

    private static int codeOf(int... block) {
        return Talk.begun().askOpen(1, block).away();
    }

    private static void emptyBlock() {
        Check.of("Terms, A BLOCK", "A BLOCK is read from the front, a FIELD (name and value) after the other");
        Check.same("no bytes", Talk.begun().askOpen(1).told(), "RESET 0 of 1: 1");
    }

    private static void fieldOfEntry() {
        Check.of("Terms, A BLOCK", "128 + i: that of ENTRY i");
        for (int i = 1; i <= 7; i++) {
            Check.same("128 + " + i, codeOf(128 + i), 0);
        }
        Talk talk = Talk.begun().askOpen(1, Talk.entering(":m", "PUT")).hushed();
        Check.same("128 + 8", talk.ask(3, 136, 131).told(), "HEADERS 5 of 3: 6 3 52 48 53");
        Check.same("no entry comes by it", talk.about(5), 1);
    }

    private static void noSuchEntry() {
        Check.of("Terms, A BLOCK", "There must be such an entry, and all bytes");
        Check.same("128 + 0", codeOf(128), BAD);
        Check.same("128 + 8", codeOf(136), BAD);
        Check.same("128 + 127", codeOf(255), BAD);
        Talk one = Talk.begun().askOpen(1, Talk.entering("a", "b"));
        Check.same("128 + 8 of 8", one.askOpen(3, 136).away(), 0);
        Check.same("128 + 9 of 8", one.askOpen(5, 137).away(), BAD);
        Talk gone = Talk.begun().askOpen(1, Talk.entering("a", "b")).askOpen(3, 32, 136);
        Check.same("128 + 8, which went", gone.away(), BAD);
    }

    private static void becomesNewEntry() {
        Check.of("Terms, A BLOCK", "64 + i: a name and a STRING as its value, which become a new entry");
        String[] names = {":m", ":m", ":p", "host", "length", ":s", ":s"};
        for (int i = 1; i <= 7; i++) {
            Check.same("64 + " + i, Talk.begun().askOpen(1, 64 + i, 1, 'x').came(), names[i - 1] + "=x");
        }
        Check.same("64 + 0", Talk.begun().askOpen(1, 64, 2, 'a', 'b', 1, 'x').came(), "ab=x");
        Talk talk = Talk.begun().askOpen(1, Talk.entering("q", "1")).askOpen(3, 64 + 8, 1, '2');
        Check.same("64 + 8", talk.came(), "q=2 q=1");
        Talk used = Talk.begun().ask(1, 65, 3, 'P', 'U', 'T', 131);
        Check.same("it is a field too", used.told(), "HEADERS 5 of 1: 6 3 52 48 53");
    }

    private static void noSuchNameOfNewEntry() {
        Check.of("Terms, A BLOCK", "There must be such an entry, and all bytes");
        Check.same("64 + 8", codeOf(72, 1, 'x'), BAD);
        Check.same("64 + 63", codeOf(127, 1, 'x'), BAD);
        Check.same("64 + 9 of 8", codeOf(Talk.join(Talk.entering("a", "b"), new int[] {73, 1, 'x'})), BAD);
        Check.same("64 + 8 of 8", codeOf(Talk.join(Talk.entering("a", "b"), new int[] {72, 1, 'x'})), 0);
    }

    private static void becomesNoEntry() {
        Check.of("Terms, A BLOCK", "0 + i (i to 15): likewise, without");
        for (int i = 1; i <= 7; i++) {
            Talk talk = Talk.begun().askOpen(1, i, 1, 'x');
            Check.same("0 + " + i, talk.came() + talk.away(), "0");
        }
        Talk zero = Talk.begun().askOpen(1, 0, 1, 'a', 1, 'x');
        Check.same("0 + 0", zero.came() + zero.away(), "0");
        Talk used = Talk.begun().ask(1, 1, 3, 'P', 'U', 'T', 131);
        Check.same("it is a field", used.told(), "HEADERS 5 of 1: 6 3 52 48 53");
    }

    private static void noSuchNameOfNoEntry() {
        Check.of("Terms, A BLOCK", "There must be such an entry, and all bytes");
        Check.same("0 + 8", codeOf(8, 1, 'x'), BAD);
        Check.same("0 + 15", codeOf(15, 1, 'x'), BAD);
        Check.same("0 + 9 of 8", codeOf(Talk.join(Talk.entering("a", "b"), new int[] {9, 1, 'x'})), BAD);
        Check.same("0 + 8 of 8", codeOf(Talk.join(Talk.entering("a", "b"), new int[] {8, 1, 'x'})), 0);
    }

    private static void nameBeyondFifteen() {
        Check.of("Terms, A BLOCK", "others cannot be read");
        Talk full = Talk.begun();
        for (int k = 0; k < 8; k++) {
            full.askOpen(1 + 2 * k, Talk.entering("" + (char) ('a' + k), ""));
        }
        Check.same("0 + 15 of 15", full.askOpen(17, 15, 1, 'x').away(), 0);
        Check.same("0 + 16", full.askOpen(19, 16, 1, 'x').away(), BAD);
        for (int first = 16; first <= 31; first++) {
            Check.same("first byte " + first, codeOf(first, 1, 'x', 1, 'x'), BAD);
            Check.same("first byte " + first + " alone", codeOf(first), BAD);
        }
    }

    private static void sizeBecomes() {
        Check.of("Terms, A BLOCK", "32 + n: the SIZE becomes n (to 24)");
        for (int n = 0; n <= 24; n++) {
            Talk talk = Talk.begun().askOpen(1, 32 + n);
            Check.same("32 + " + n, talk.about(4) + " " + talk.away(), n + " 0");
        }
    }

    private static void sizeTooLarge() {
        Check.of("Terms, A BLOCK", "32 + n: the SIZE becomes n (to 24), only before all fields; others cannot be read");
        for (int first = 57; first <= 63; first++) {
            Talk talk = Talk.begun().askOpen(1, first);
            Check.same("first byte " + first, talk.about(4) + " " + talk.away(), "24 " + BAD);
        }
    }

    private static void sizeBehindField() {
        Check.of("Terms, A BLOCK", "only before all fields");
        Talk before = Talk.begun().ask(1, 32 + 3, 32 + 24, 32 + 9, 129, 131);
        Check.same("some before all", before.told() + " " + before.about(4), "HEADERS 5 of 1: 135 9");
        for (int n : new int[] {0, 9, 24}) {
            Talk talk = Talk.begun().askOpen(1, 129, 32 + n, 131);
            Check.same(n + " behind an entry's", talk.about(4) + " " + talk.away(), "24 " + BAD);
        }
        Check.same("behind a new one", codeOf(Talk.join(Talk.entering("a", "b"), new int[] {40})), BAD);
        Check.same("behind one that is no entry", codeOf(Talk.join(Talk.field("a", "b"), new int[] {40})), BAD);
        Check.same("in the next block", Talk.begun().askOpen(1, 129, 131).askOpen(3, 40, 129, 131).about(4), 8);
    }

    private static void nameIsString() {
        Check.of("Terms, A BLOCK", "The name is that of entry i, for i = 0 a string");
        Check.same("i = 0", Talk.begun().askOpen(1, 64, 1, 'n', 1, 'v').came(), "n=v");
        Check.same("i = 4", Talk.begun().askOpen(1, 68, 1, 'v').came(), "host=v");
    }

    private static void emptyName() {
        Check.of("Terms, A BLOCK", "for a name not 0");
        Check.same("0 + 0", codeOf(0, 0, 1, 'x'), BAD);
        Check.same("64 + 0", codeOf(64, 0, 1, 'x'), BAD);
        Check.same("a name of 1", codeOf(0, 1, 'a', 1, 'x'), 0);
    }

    private static void emptyValue() {
        Check.of("Terms, A BLOCK", "for a name not 0");
        Check.same("of no entry", codeOf(0, 1, 'a', 0), 0);
        Check.same("of a new one", Talk.begun().askOpen(1, 64, 1, 'a', 0).came(), "a=");
        Check.same("behind entry 4", Talk.begun().askOpen(1, 68, 0).came(), "host=");
    }

    private static void longestString() {
        Check.of("Terms, A BLOCK", "A STRING: its length (to 20), and so many bytes 33 .. 126");
        String twenty = "abcdefghijklmnopqrst";
        Check.same("a name of 20", Talk.begun().askOpen(1, Talk.entering(twenty, "12")).came(), twenty + "=12");
        Check.same("a value of 20", Talk.begun().askOpen(1, Talk.entering("ab", twenty)).came(), "ab=" + twenty);
        Check.same("both", codeOf(Talk.field(twenty, twenty)), 0);
    }

    private static void tooLongString() {
        Check.of("Terms, A BLOCK", "A STRING: its length (to 20)");
        for (int length : new int[] {21, 32, 64}) {
            int[] text = Talk.join(new int[] {length}, Talk.times(length, 'x'));
            Check.same("a name of " + length, codeOf(Talk.join(new int[] {0}, text, new int[] {0})), BAD);
            Check.same("a value of " + length, codeOf(Talk.join(new int[] {4}, text)), BAD);
        }
        Check.same("a length of 255", codeOf(Talk.join(new int[] {4, 255}, Talk.times(98, 'x'))), BAD);
    }

    private static void leastAndGreatestByte() {
        Check.of("Terms, A BLOCK", "and so many bytes 33 .. 126");
        Check.same("33 and 126", Talk.begun().askOpen(1, 64, 2, 33, 126, 2, 126, 33).came(), "!~=~!");
    }

    private static void wrongByteInString() {
        Check.of("Terms, A BLOCK", "and so many bytes 33 .. 126");
        for (int bad : new int[] {0, 10, 32, 127, 128, 'a' + 128, 255}) {
            Check.same(bad + " alone in a value", codeOf(4, 1, bad), BAD);
            Check.same(bad + " first in a value", codeOf(4, 2, bad, 'x'), BAD);
            Check.same(bad + " last in a value", codeOf(4, 2, 'x', bad), BAD);
            Check.same(bad + " first in a name", codeOf(0, 2, bad, 'x', 0), BAD);
            Check.same(bad + " last in a name", codeOf(0, 2, 'x', bad, 0), BAD);
            Check.same(bad + " in a new entry", codeOf(64, 1, 'x', 1, bad), BAD);
        }
    }

    private static void notAllBytes() {
        Check.of("Terms, A BLOCK", "There must be such an entry, and all bytes");
        Check.same("no name", codeOf(0), BAD);
        Check.same("no name of a new one", codeOf(64), BAD);
        Check.same("half a name", codeOf(0, 3, 'a', 'b'), BAD);
        Check.same("no value behind a name", codeOf(0, 1, 'a'), BAD);
        Check.same("no value behind an entry's", codeOf(4), BAD);
        Check.same("no value of a new one", codeOf(68), BAD);
        Check.same("half a value", codeOf(4, 2, 'a'), BAD);
        Check.same("a length alone", codeOf(4, 1), BAD);
        Talk half = Talk.begun().askOpen(1, 64, 1, 'a', 2, 'b');
        Check.same("half a field becomes no entry", half.came() + half.away(), "" + BAD);
    }

    private static void bytesOfTheBlockBefore() {
        Check.of("Terms, A BLOCK", "and all bytes");
        Talk talk = Talk.begun().askOpen(1, 4, 5, 'x', 'x', 'x', 'x', 'x').askOpen(3, 4, 3, 'a');
        Check.same("they are not there", talk.away(), BAD);
    }

    private static void blockUpToItsLastByte() {
        Check.of("Terms, A BLOCK", "and all bytes");
        int[] most = Talk.times(99, 132);
        Check.same("100 fields", codeOf(Talk.times(100, 132)), 0);
        Check.same("no value behind 100", codeOf(Talk.join(most, new int[] {68})), BAD);
        Check.same("no name behind 100", codeOf(Talk.join(most, new int[] {0})), BAD);
        Check.same("no such entry at 100", codeOf(Talk.join(most, new int[] {128})), BAD);
        int[] last = Talk.join(Talk.times(98, 132), new int[] {4});
        Check.same("an empty value at 100", codeOf(Talk.join(last, new int[] {0})), 0);
        Check.same("a value beyond 100", codeOf(Talk.join(last, new int[] {1})), BAD);
    }

    /** What stood before the place that cannot be read was read, and holds. */
    private static void readFromTheFront() {
        Check.of("Terms, A BLOCK", "A BLOCK is read from the front");
        Talk talk = Talk.begun().askOpen(1, Talk.join(new int[] {32 + 10}, Talk.entering("a", "b"), new int[] {128},
                Talk.entering("c", "d")));
        Check.same("SIZE, entries and code", talk.about(4) + " " + talk.came() + " " + talk.away(), "10 a=b " + BAD);
        Talk within = Talk.begun().ask(1, 65, 3, 'P', 'U', 'T', 136);
        Check.same("a new entry is there at once", within.away(), 0);
    }
}
