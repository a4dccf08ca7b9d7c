/** Promise 11: entry. */
public final class EntryTest {
    public static void main(String[] args) {
        Talk talk = Talk.begun();
        String[] fixed = {":m=GET", ":m=HEAD", ":p=/", "host=", "length=", ":s=200", ":s=404"};
        for (int k = 1; k <= 7; k++) {
            Check.same("entry " + k, talk.entryText(k), fixed[k - 1]);
        }
        none(talk, 0, 0, 0);
        none(talk, 8, 0, 0);
        talk.askOpen(1, Talk.join(Talk.entering("ab", "xyz"), Talk.entering("c", "")));
        Check.same("the newest", talk.entryText(8), "c=");
        Check.same("the oldest", talk.entryText(9), "ab=xyz");
        Check.same("a character", talk.server.entry(9, 1, 2), (int) 'z');
        Check.same("of a name", talk.server.entry(9, 0, 1), (int) 'b');
        none(talk, 10, 0, 0);
        none(talk, -1, 0, 0);
        none(talk, Integer.MIN_VALUE, 0, 0);
        none(talk, Integer.MAX_VALUE, 0, 0);
        none(talk, 9, 0, 2);
        none(talk, 9, 1, 3);
        none(talk, 9, 0, -1);
        none(talk, 9, 1, Integer.MAX_VALUE);
        none(talk, 9, 1, Integer.MIN_VALUE);
        none(talk, 9, 2, 0);
        none(talk, 9, -1, 0);
        none(talk, 8, 1, 0);
        none(talk, 4, 1, 0);
        none(talk, 1, 1, 3);
        talk.askOpen(3, 32 + 5);
        none(talk, 9, 0, 0);
        Check.same("one stays", talk.entryText(8), "c=");
        Check.end();
    }

    private static void none(Talk talk, int k, int part, int j) {
        Check.throwsNoSuch("entry " + k + " " + part + " " + j, () -> talk.server.entry(k, part, j));
    }
}
