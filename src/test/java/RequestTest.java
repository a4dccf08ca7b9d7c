/** Promise 3: 'A REQUEST' of 'Terms'. */
public final class RequestTest {
    private static final int[] M = {129};
    private static final int[] P = {131};
    private static final int[] HOST = {132};

    public static void main(String[] args) {
        Check.run(RequestTest::oneMethodAndOnePath,
                RequestTest::noMethodOrNoPath,
                RequestTest::twoMethodsOrTwoPaths,
                RequestTest::beforeAllOthers,
                RequestTest::noOtherNameWithColon,
                RequestTest::otherNamesAreLetters,
                RequestTest::otherNamesAreNotLetters,
                RequestTest::anyValues,
                RequestTest::atMostOneLength,
                RequestTest::oneToThreeDigits,
                RequestTest::notOneToThreeDigits);
    }

    /** Whether the block opens a stream; it answers RESET 1 if not. */
    private static boolean isRequest(int[]... fields) {
        Talk talk = Talk.begun().askOpen(1, Talk.join(fields));
        boolean open = talk.about(1) == 1;
        Check.same("what is said", talk.told(), open ? "" : "RESET 0 of 1: 1");
        Check.same("the highest, and away", talk.about(0) + " " + talk.away(), "1 0");
        return open;
    }

    private static void oneMethodAndOnePath() {
        Check.of("Terms, A REQUEST", "A REQUEST has one field :m and one :p");
        Check.same(":m :p", isRequest(M, P), true);
        Check.same(":p :m", isRequest(P, M), true);
        Check.same("SIZE :m :p", isRequest(new int[] {40}, M, P), true);
        Check.same("written out", isRequest(Talk.field(":m", "GET"), Talk.field(":p", "/")), true);
        Check.same("as new entries", isRequest(Talk.entering(":p", "/"), Talk.entering(":m", "GET")), true);
    }

    private static void noMethodOrNoPath() {
        Check.of("Terms, A REQUEST", "A REQUEST has one field :m and one :p");
        Check.same("no field", isRequest(), false);
        Check.same(":m", isRequest(M), false);
        Check.same(":p", isRequest(P), false);
        Check.same(":m host", isRequest(M, HOST), false);
        Check.same(":p host", isRequest(P, HOST), false);
        Check.same("host", isRequest(HOST), false);
        Check.same("m p", isRequest(Talk.field("m", "GET"), Talk.field("p", "/")), false);
    }

    private static void twoMethodsOrTwoPaths() {
        Check.of("Terms, A REQUEST", "one field :m and one :p");
        Check.same(":m :m :p", isRequest(M, M, P), false);
        Check.same(":m :p :m", isRequest(M, P, M), false);
        Check.same(":m :p :p", isRequest(M, P, P), false);
        Check.same(":p :m :p", isRequest(P, M, P), false);
        Check.same("two of other values", isRequest(M, P, Talk.field(":m", "HEAD")), false);
        Check.same("an empty one first", isRequest(Talk.field(":m", ""), M, P), false);
        Check.same("an empty path first", isRequest(M, Talk.field(":p", ""), P), false);
    }

    private static void beforeAllOthers() {
        Check.of("Terms, A REQUEST", "before all others");
        Check.same(":m :p host", isRequest(M, P, HOST), true);
        Check.same(":m host :p", isRequest(M, HOST, P), false);
        Check.same("host :m :p", isRequest(HOST, M, P), false);
        Check.same("length :m :p", isRequest(Talk.field("length", "1"), M, P), false);
        Check.same(":m :p host :m", isRequest(M, P, HOST, M), false);
    }

    private static void noOtherNameWithColon() {
        Check.of("Terms, A REQUEST", "and no other name with : in front");
        for (String name : new String[] {":s", ":", ":mm", ":pp", "::", ":M", ":host", ":length"}) {
            Check.same(":m :p " + name, isRequest(M, P, Talk.field(name, "")), false);
            Check.same(name + " :m :p", isRequest(Talk.field(name, ""), M, P), false);
            Check.same(":m :p host " + name, isRequest(M, P, HOST, Talk.field(name, "")), false);
        }
        Check.same("entry 6", isRequest(M, P, new int[] {134}), false);
        Check.same("entry 7", isRequest(M, P, new int[] {135}), false);
    }

    private static void otherNamesAreLetters() {
        Check.of("Terms, A REQUEST", "other names are letters a .. z alone");
        for (String name : new String[] {"a", "z", "az", "abcdefghijklmnopqrst", "m", "lengths", "lengt", "host"}) {
            Check.same(":m :p " + name, isRequest(M, P, Talk.field(name, "")), true);
        }
        Check.same("the same twice", isRequest(M, P, HOST, HOST), true);
    }

    private static void otherNamesAreNotLetters() {
        Check.of("Terms, A REQUEST", "other names are letters a .. z alone");
        for (String name : new String[] {"A", "aB", "Ab", "a-b", "a1", "1a", "a:", "a`", "`a", "a{", "{a", "Z", "~", "!"}) {
            Check.same(":m :p " + name, isRequest(M, P, Talk.field(name, "x")), false);
            Check.same(":m :p " + name + ", a new entry", isRequest(M, P, Talk.entering(name, "x")), false);
            Check.same(":m :p " + name + " host", isRequest(M, P, Talk.field(name, "x"), HOST), false);
        }
    }

    private static void anyValues() {
        Check.of("Terms, A REQUEST", "A REQUEST has one field :m and one :p");
        Check.same("empty ones", isRequest(Talk.field(":m", ""), Talk.field(":p", "")), true);
        Check.same("other ones", isRequest(Talk.field(":m", "~"), Talk.field(":p", "!"), Talk.field("a", ":A1")), true);
    }

    private static void atMostOneLength() {
        Check.of("Terms, A REQUEST", "there is at most one of name length");
        Check.same("none", isRequest(M, P), true);
        Check.same("one", isRequest(M, P, Talk.field("length", "1")), true);
        Check.same("two", isRequest(M, P, Talk.field("length", "1"), Talk.field("length", "1")), false);
        Check.same("two of 0, not together", isRequest(M, P, Talk.field("length", "0"), HOST, new int[] {5, 1, '0'}), false);
    }

    private static void oneToThreeDigits() {
        Check.of("Terms, A REQUEST", "with one to three digits");
        for (String good : new String[] {"0", "9", "00", "10", "99", "000", "007", "999"}) {
            Check.same("length " + good, isRequest(M, P, Talk.field("length", good)), true);
            Check.same("length " + good + ", a new entry", isRequest(M, P, Talk.entering("length", good)), true);
        }
    }

    private static void notOneToThreeDigits() {
        Check.of("Terms, A REQUEST", "with one to three digits");
        Check.same("entry 5", isRequest(M, P, new int[] {133}), false);
        for (String bad : new String[] {"", "0000", "1000", "99999999999999999999", "a", "1a", "a1", "-1", "+1", "1.",
            "/", "1/", ":", "1:", "12:"}) {
            Check.same("length " + bad, isRequest(M, P, Talk.field("length", bad)), false);
        }
    }
}
