/** Promise 3: the row ENTRIES of 'Terms'. */
public final class TableTest {
    public static void main(String[] args) {
        Check.run(TableTest::fixedEntries,
                TableTest::newestFirst,
                TableTest::whatOneTakes,
                TableTest::sizeAtFirst,
                TableTest::justSize,
                TableTest::oldestGoBeforeNewOne,
                TableTest::oldestGoWhenSizeChanges,
                TableTest::sizeThatIsJustTaken,
                TableTest::sizeDownAndUp,
                TableTest::sizeZero,
                TableTest::oneThatTakesMoreAlone,
                TableTest::oneThatTakesJustSize,
                TableTest::nameOfOneThatGoes);
    }

    /** How many entries came, what they take, and the entries. */
    private static String table(Talk talk) {
        return talk.about(5, 6) + " " + talk.came();
    }

    private static void fixedEntries() {
        Check.of("Terms, ENTRIES",
                "1 :m GET, 2 :m HEAD, 3 :p /, 4 host (and an empty value), 5 length (likewise), 6 :s 200, 7 :s 404");
        String[] due = {":m=GET", ":m=HEAD", ":p=/", "host=", "length=", ":s=200", ":s=404"};
        Talk talk = Talk.begun().askOpen(1, Talk.entering("x", "y")).askOpen(3, 32);
        for (int k = 1; k <= 7; k++) {
            Check.same("entry " + k, talk.entryText(k), due[k - 1]);
        }
    }

    private static void newestFirst() {
        Check.of("Terms, ENTRIES", "from 8 on those that came, the newest first");
        Talk talk = Talk.begun().askOpen(1, Talk.join(Talk.entering("a", "1"), Talk.entering("b", "2")));
        Check.same("two of one block", table(talk), "2 8 b=2 a=1");
        talk.askOpen(3, Talk.entering("a", "1"));
        Check.same("the same once more", table(talk), "3 12 a=1 b=2 a=1");
        Check.same("8", talk.askOpen(5, 72, 1, '8').entryText(8), "a=8");
        Check.same("then 10", talk.askOpen(7, 74, 1, '9').entryText(8), "b=9");
    }

    private static void whatOneTakes() {
        Check.of("Terms, ENTRIES", "One takes 2 and as many as it has characters");
        Check.same("the least", table(Talk.begun().askOpen(1, Talk.entering("a", ""))), "1 3 a=");
        Check.same("name and value", table(Talk.begun().askOpen(1, Talk.entering("ab", "cde"))), "1 7 ab=cde");
        Check.same("a name of an entry", table(Talk.begun().askOpen(1, 68, 0)), "1 6 host=");
    }

    private static void sizeAtFirst() {
        Check.of("Terms, ENTRIES", "All together take at most SIZE (24 at first)");
        Talk talk = Talk.begun();
        Check.same("SIZE", talk.about(4), 24);
        talk.askOpen(1, Talk.entering("abcdefghijk", "abcdefghijk"));
        Check.same("24", table(talk), "1 24 abcdefghijk=abcdefghijk");
        Talk more = Talk.begun().askOpen(1, Talk.entering("abcdefghijk", "abcdefghijkl"));
        Check.same("25", table(more), "0 0 ");
    }

    private static Talk eight() {
        Talk talk = Talk.begun();
        for (int k = 0; k < 8; k++) {
            talk.askOpen(2 * k + 1, Talk.entering("" + (char) ('a' + k), ""));
        }
        return talk;
    }

    private static void justSize() {
        Check.of("Terms, ENTRIES", "All together take at most SIZE");
        Check.same("eight of 3 at SIZE 24", table(eight()), "8 24 h= g= f= e= d= c= b= a=");
        Talk two = Talk.begun().askOpen(1, Talk.join(new int[] {32 + 7}, Talk.entering("a", ""), Talk.entering("b", "1")));
        Check.same("3 and 4 at SIZE 7", table(two), "2 7 b=1 a=");
        Talk one = Talk.begun().askOpen(1, Talk.join(new int[] {32 + 6}, Talk.entering("a", ""), Talk.entering("b", "1")));
        Check.same("3 and 4 at SIZE 6", table(one), "1 4 b=1");
    }

    private static void oldestGoBeforeNewOne() {
        Check.of("Terms, ENTRIES", "otherwise the oldest go, when SIZE changes, and before a new one comes");
        Talk talk = eight();
        talk.askOpen(17, Talk.entering("i", ""));
        Check.same("one goes for one of 3", table(talk), "8 24 i= h= g= f= e= d= c= b=");
        talk.askOpen(19, Talk.entering("k", "1"));
        Check.same("two go for one of 4", table(talk), "7 22 k=1 i= h= g= f= e= d=");
        talk.askOpen(21, Talk.entering("l", "1"));
        Check.same("one goes, 2 being free", table(talk), "7 23 l=1 k=1 i= h= g= f= e=");
        talk.askOpen(23, Talk.entering("abcdefghijk", "abcdefghijk"));
        Check.same("all go for one of 24", table(talk), "1 24 abcdefghijk=abcdefghijk");
    }

    private static Talk three() {
        return Talk.begun().askOpen(1, Talk.join(Talk.entering("a", ""), Talk.entering("b", "1"), Talk.entering("c", "12")));
    }

    private static void oldestGoWhenSizeChanges() {
        Check.of("Terms, ENTRIES", "otherwise the oldest go, when SIZE changes");
        Check.same("11", table(three().askOpen(3, 32 + 11)), "2 9 c=12 b=1");
        Check.same("8", table(three().askOpen(3, 32 + 8)), "1 5 c=12");
        Check.same("4", table(three().askOpen(3, 32 + 4)), "0 0 ");
        Check.same("11, then 128 + 10, which went", three().askOpen(3, 32 + 11, 138).away(), 9);
    }

    private static void sizeThatIsJustTaken() {
        Check.of("Terms, ENTRIES", "All together take at most SIZE");
        Check.same("12", table(three().askOpen(3, 32 + 12)), "3 12 c=12 b=1 a=");
        Check.same("9", table(three().askOpen(3, 32 + 9)), "2 9 c=12 b=1");
        Check.same("5", table(three().askOpen(3, 32 + 5)), "1 5 c=12");
    }

    private static void sizeDownAndUp() {
        Check.of("Terms, ENTRIES", "otherwise the oldest go, when SIZE changes");
        Talk talk = three().askOpen(3, 32 + 5, 32 + 24);
        Check.same("in one block", talk.about(4) + " " + table(talk), "24 1 5 c=12");
        talk.askOpen(5, Talk.entering("d", "123456789012345"));
        Check.same("5 and 18 at SIZE 24", table(talk), "2 23 d=123456789012345 c=12");
    }

    private static void sizeZero() {
        Check.of("Terms, ENTRIES", "All together take at most SIZE");
        Talk talk = three().askOpen(3, 32);
        Check.same("0", talk.about(4) + " " + table(talk), "0 0 0 ");
        talk.askOpen(5, Talk.entering("a", ""));
        Check.same("none comes", table(talk) + talk.away(), "0 0 0");
        talk.askOpen(7, Talk.join(new int[] {32 + 2}, Talk.entering("a", "")));
        Check.same("none comes at 2", table(talk) + talk.away(), "0 0 0");
        talk.askOpen(9, Talk.join(new int[] {32 + 3}, Talk.entering("a", "")));
        Check.same("one comes at 3", table(talk) + talk.away(), "1 3 a=0");
    }

    private static void oneThatTakesMoreAlone() {
        Check.of("Terms, ENTRIES", "one that takes more alone does not come, though all others go");
        Talk talk = eight().askOpen(17, Talk.entering("abcdefghijk", "abcdefghijkl"));
        Check.same("25 at SIZE 24", table(talk) + talk.away(), "0 0 0");
        Talk small = three().askOpen(3, Talk.join(new int[] {32 + 12}, Talk.entering("abcdef", "ghijk")));
        Check.same("13 at SIZE 12", table(small) + small.away(), "0 0 0");
        Talk longest = Talk.begun().ask(1, Talk.join(new int[] {129, 131},
                Talk.entering("abcdefghijklmnopqrst", "abcdefghijklmnopqrst")));
        Check.same("42: it is a field nevertheless", longest.told() + " " + table(longest), "HEADERS 5 of 1: 135 0 0 ");
    }

    private static void oneThatTakesJustSize() {
        Check.of("Terms, ENTRIES", "one that takes more alone does not come");
        Talk talk = three().askOpen(3, Talk.join(new int[] {32 + 12}, Talk.entering("abcde", "fghij")));
        Check.same("12 at SIZE 12", table(talk), "1 12 abcde=fghij");
    }

    private static void nameOfOneThatGoes() {
        Check.of("Terms, ENTRIES", "and before a new one comes");
        Talk talk = Talk.begun().askOpen(1, Talk.entering("abcdefghij", "abcdefgh")).askOpen(3, 72, 1, 'x');
        Check.same("its name is the new one's", table(talk), "1 13 abcdefghij=x");
    }
}
