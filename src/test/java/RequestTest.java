/** Promise 3: which blocks are requests. */
public final class RequestTest {
    private static final int[] M = {129};
    private static final int[] P = {131};
    private static final int[] HOST = {132};

    public static void main(String[] args) {
        Check.same("m p", isRequest(M, P), true);
        Check.same("p m", isRequest(P, M), true);
        Check.same("m p host", isRequest(M, P, HOST), true);
        Check.same("m p host host", isRequest(M, P, HOST, HOST), true);
        Check.same("a size, m p", isRequest(new int[] {40}, M, P), true);
        Check.same("other values of m and p", isRequest(Talk.field(":m", ""), Talk.field(":p", "?")), true);
        Check.same("names a and z", isRequest(M, P, Talk.field("a", "A"), Talk.field("z", ":")), true);

        Check.same("nothing", isRequest(), false);
        Check.same("m", isRequest(M), false);
        Check.same("p", isRequest(P), false);
        Check.same("m m p", isRequest(M, M, P), false);
        Check.same("m p p", isRequest(M, P, P), false);
        Check.same("m p and another m", isRequest(M, P, Talk.field(":m", "HEAD")), false);
        Check.same("host m p", isRequest(HOST, M, P), false);
        Check.same("m host p", isRequest(M, HOST, P), false);
        Check.same("m p :s", isRequest(M, P, new int[] {134}), false);
        Check.same(":s m p", isRequest(new int[] {134}, M, P), false);
        Check.same("m p :", isRequest(M, P, Talk.field(":", "")), false);
        Check.same("m p :mm", isRequest(M, P, Talk.field(":mm", "")), false);
        Check.same("m p host :x", isRequest(M, P, HOST, Talk.field(":x", "")), false);
        for (String name : new String[] {"A", "aB", "a-b", "a1", "a:", "a`", "a{", "Z", "~"}) {
            Check.same("m p " + name, isRequest(M, P, Talk.field(name, "x")), false);
            Check.same("m p new " + name, isRequest(M, P, Talk.entering(name, "x")), false);
        }

        for (String good : new String[] {"0", "9", "10", "999", "007"}) {
            Check.same("length " + good, isRequest(M, P, Talk.field("length", good)), true);
        }
        for (String bad : new String[] {"", "1000", "0000", "a", "1a", "-1", "+1", "1.", "/", ":", "12:"}) {
            Check.same("length " + bad, isRequest(M, P, Talk.field("length", bad)), false);
        }
        Check.same("entry 5", isRequest(M, P, new int[] {133}), false);
        Check.same("two lengths", isRequest(M, P, Talk.field("length", "1"), Talk.field("length", "1")), false);
        Check.same("two lengths of 0", isRequest(M, P, Talk.field("length", "0"), HOST, new int[] {5, 1, '0'}), false);
        Check.same("lengths", isRequest(M, P, Talk.field("lengths", "x")), true);
        Check.same("a name as it was in an entry", isRequest(M, P, new int[] {5, 1, '7'}), true);
        Check.end();
    }

    /** Whether the block opens a stream; it answers RESET 1 if not. */
    private static boolean isRequest(int[]... fields) {
        Talk talk = Talk.begun();
        talk.askOpen(1, Talk.join(fields));
        boolean open = talk.server.about(1) == 1;
        Check.same("what is said", talk.told(), open ? "" : "RESET 0 of 1: 1");
        Check.same("the highest", talk.server.about(0), 1);
        return open;
    }
}
