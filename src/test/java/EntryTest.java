/** Promise 11: entry. */
public final class EntryTest {
    public static void main(String[] args) {
        Check.run(EntryTest::characters,
                EntryTest::asTheyAreNumbered,
                EntryTest::noSuchEntry,
                EntryTest::noSuchEntryThatCame,
                EntryTest::noSuchPart,
                EntryTest::noSuchCharacter,
                EntryTest::noCharacterOfEmptyValue);
    }

    private static void none(Talk talk, int k, int part, int j) {
        Check.throwsNoSuch("entry " + k + ", part " + part + ", character " + j, () -> talk.entry(k, part, j));
    }

    /** Entry 8 is c with an empty value, 9 is ab with xyz. */
    private static Talk two() {
        return Talk.begun().askOpen(1, Talk.join(Talk.entering("ab", "xyz"), Talk.entering("c", "")));
    }

    private static void characters() {
        Check.of("Promise 11", "Character j of the name (part 0) or value (1) of entry k");
        Talk talk = two();
        Check.same("the first of a name", talk.entry(9, 0, 0), (int) 'a');
        Check.same("the last of a name", talk.entry(9, 0, 1), (int) 'b');
        Check.same("the first of a value", talk.entry(9, 1, 0), (int) 'x');
        Check.same("the last of a value", talk.entry(9, 1, 2), (int) 'z');
        Check.same("of entry 1", talk.entry(1, 1, 2), (int) 'T');
        Check.same("of entry 7", talk.entry(7, 0, 0), (int) ':');
    }

    private static void asTheyAreNumbered() {
        Check.of("Promise 11", "as they are numbered");
        Talk talk = new Talk();
        String[] due = {":m=GET", ":m=HEAD", ":p=/", "host=", "length=", ":s=200", ":s=404"};
        for (int k = 1; k <= 7; k++) {
            Check.same("entry " + k, talk.entryText(k), due[k - 1]);
        }
        Talk came = two();
        Check.same("the newest", came.entryText(8), "c=");
        Check.same("the oldest", came.entryText(9), "ab=xyz");
        Talk eight = Talk.begun();
        for (int k = 0; k < 8; k++) {
            eight.askOpen(1 + 2 * k, Talk.entering("" + (char) ('a' + k), ""));
        }
        Check.same("the last of eight", eight.entryText(15), "a=");
        none(eight, 16, 0, 0);
    }

    private static void noSuchEntry() {
        Check.of("Promise 11", "NoSuchElementException when there is no such entry, part or character");
        Talk talk = new Talk();
        for (int k : new int[] {0, -1, 8, 9, 128 + 1, 256 + 1, Integer.MIN_VALUE, Integer.MIN_VALUE + 8, Integer.MAX_VALUE}) {
            none(talk, k, 0, 0);
            none(talk, k, 1, 0);
        }
    }

    private static void noSuchEntryThatCame() {
        Check.of("Promise 11", "NoSuchElementException when there is no such entry, part or character");
        Talk talk = two();
        none(talk, 10, 0, 0);
        talk.askOpen(3, 32 + 3);
        Check.same("one stays", talk.entryText(8), "c=");
        none(talk, 9, 0, 0);
        talk.askOpen(5, 32);
        none(talk, 8, 0, 0);
    }

    private static void noSuchPart() {
        Check.of("Promise 11", "NoSuchElementException when there is no such entry, part or character");
        Talk talk = two();
        for (int part : new int[] {-1, 2, 3, 256, Integer.MIN_VALUE, Integer.MAX_VALUE}) {
            none(talk, 1, part, 0);
            none(talk, 9, part, 0);
        }
    }

    private static void noSuchCharacter() {
        Check.of("Promise 11", "NoSuchElementException when there is no such entry, part or character");
        Talk talk = two();
        for (int j : new int[] {-1, 3, 4, 256, Integer.MIN_VALUE, Integer.MAX_VALUE}) {
            none(talk, 9, 0, j);
            none(talk, 9, 1, j);
            none(talk, 1, 1, j);
        }
        none(talk, 9, 0, 2);
        none(talk, 8, 0, 1);
    }

    private static void noCharacterOfEmptyValue() {
        Check.of("Promise 11", "NoSuchElementException when there is no such entry, part or character");
        Talk talk = two();
        none(talk, 4, 1, 0);
        none(talk, 5, 1, 0);
        none(talk, 8, 1, 0);
        none(talk, 8, 1, -1);
    }
}
