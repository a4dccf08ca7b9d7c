/** Promises 5 to 7: waiting, out and take. */
public final class OutputTest {
    public static void main(String[] args) {
        Check.run(OutputTest::howManyWait,
                OutputTest::noneWaits,
                OutputTest::mostThatWait,
                OutputTest::byteByByte,
                OutputTest::outTakesNothing,
                OutputTest::noSuchByte,
                OutputTest::noSuchByteWhenNoneWaits,
                OutputTest::takesTheFirst,
                OutputTest::takesAllIfNoMore,
                OutputTest::takesJustAll,
                OutputTest::takesNoneBelowOne,
                OutputTest::takesFromNone);
    }

    private static void howManyWait() {
        Check.of("Promise 5", "How many bytes of output wait");
        Talk talk = new Talk();
        Check.same("at first", talk.waiting(), 6);
        talk.preface();
        Check.same("as before", talk.waiting(), 6);
        talk.settings();
        Check.same("4 more", talk.waiting(), 10);
        talk.ping();
        Check.same("8 more", talk.waiting(), 18);
        talk.take(5);
        Check.same("5 fewer", talk.waiting(), 13);
    }

    private static void noneWaits() {
        Check.of("Promise 5", "How many bytes of output wait");
        Check.same("none", new Talk().hushed().waiting(), 0);
    }

    /** 300 wait, and then the bodies of four streams come at once: no byte of them is lost. */
    private static void mostThatWait() {
        Check.of("Promise 5", "How many bytes of output wait");
        Talk talk = Talk.withPages().settings(4, 0, 5, 16).widen(0, 768);
        for (int k = 0; k < 4; k++) {
            talk.ask(1 + 2 * k, Talk.getting(k % 2 == 0 ? 'a' : 'b'));
        }
        talk.hushed();
        for (int k = 0; k < 37; k++) {
            talk.ping();
        }
        talk.settings();
        Check.same("300", talk.waiting(), 300);
        talk.settings(4, 255);
        Check.same("all that was sent", talk.waiting(), 300 + 4 + 4 * (60 + 4 * 4));
        talk.take(300 + 4 + 3 * 4 * 20);
        Check.same("the last ones", talk.told(),
                "DATA 1 of 1: 1*12; DATA 1 of 3: 2*12; DATA 1 of 5: 1*12; DATA 1 of 7: 2*12");
    }

    private static void byteByByte() {
        Check.of("Promise 6", "The k-th byte that waits");
        Talk talk = new Talk();
        int[] due = {2, 4, 0, 0, 3, 4};
        for (int k = 0; k < 6; k++) {
            Check.same("out " + k, talk.out(k), due[k]);
        }
        talk.hushed().preface().settings().frame(Talk.PING, 0, 0, 255, 128, 127, 0);
        Check.same("bytes above 127", talk.said().toString(), "[0, 4, 1, 0, 4, 6, 1, 0, 255, 128, 127, 0]");
    }

    private static void outTakesNothing() {
        Check.of("Promise 6", "The k-th byte that waits");
        Talk talk = new Talk();
        String before = talk.all();
        talk.out(0);
        talk.out(5);
        talk.out(0);
        Check.same("all", talk.all(), before);
    }

    private static void noSuchByte() {
        Check.of("Promise 6", "NoSuchElementException when there is none");
        Talk talk = new Talk();
        for (int k : new int[] {-1, 6, 7, 1024, 1 << 20, Integer.MIN_VALUE, Integer.MAX_VALUE}) {
            Check.throwsNoSuch("out " + k, () -> talk.out(k));
        }
        talk.take(1);
        Check.same("out 4 of 5", talk.out(4), 4);
        Check.throwsNoSuch("out 5 of 5", () -> talk.out(5));
    }

    private static void noSuchByteWhenNoneWaits() {
        Check.of("Promise 6", "NoSuchElementException when there is none");
        Talk talk = new Talk().hushed();
        Check.throwsNoSuch("out 0 of none", () -> talk.out(0));
        Check.throwsNoSuch("out -1 of none", () -> talk.out(-1));
    }

    private static void takesTheFirst() {
        Check.of("Promise 7", "The first n bytes that wait are taken");
        Talk talk = new Talk();
        talk.take(1);
        Check.same("five are left", talk.waiting() + " " + talk.out(0), "5 4");
        talk.take(3);
        Check.same("two are left", talk.waiting() + " " + talk.out(0) + " " + talk.out(1), "2 3 4");
        talk.preface().settings();
        Check.same("what comes stands behind", talk.said().toString(), "[3, 4, 0, 4, 1, 0]");
    }

    private static void takesAllIfNoMore() {
        Check.of("Promise 7", "all, if there are no more");
        for (int n : new int[] {7, 8, 1000, Integer.MAX_VALUE}) {
            Talk talk = new Talk();
            talk.take(n);
            Check.same(n + " of 6", talk.waiting(), 0);
            talk.preface().settings();
            Check.same("then", talk.told(), "SETTINGS 1 of 0:");
        }
    }

    private static void takesJustAll() {
        Check.of("Promise 7", "The first n bytes that wait are taken");
        Talk talk = new Talk();
        talk.take(5);
        Check.same("5 of 6", talk.waiting() + " " + talk.out(0), "1 4");
        Talk all = new Talk();
        all.take(6);
        Check.same("6 of 6", all.waiting(), 0);
    }

    private static void takesNoneBelowOne() {
        Check.of("Promise 7", "none for n below 1");
        for (int n : new int[] {0, -1, -6, Integer.MIN_VALUE}) {
            Talk talk = new Talk();
            talk.take(n);
            Check.same("" + n, talk.said().toString(), "[2, 4, 0, 0, 3, 4]");
        }
    }

    private static void takesFromNone() {
        Check.of("Promise 7", "all, if there are no more");
        Talk talk = new Talk().hushed();
        for (int n : new int[] {1, 0, -1, Integer.MAX_VALUE, Integer.MIN_VALUE}) {
            talk.take(n);
            Check.same(n + " of none", talk.waiting(), 0);
        }
    }
}
