/** Promises 5 to 7: waiting, out and take. */
public final class OutputTest {
    public static void main(String[] args) {
        Talk talk = new Talk();
        Check.same("six wait", talk.server.waiting(), 6);
        int[] due = {2, 4, 0, 0, 3, 4};
        for (int k = 0; k < 6; k++) {
            Check.same("out " + k, talk.server.out(k), due[k]);
        }
        for (int k : new int[] {-1, 6, 7, Integer.MIN_VALUE, Integer.MAX_VALUE}) {
            Check.throwsNoSuch("out " + k, () -> talk.server.out(k));
        }
        Check.same("out takes nothing", talk.server.waiting(), 6);

        talk.server.take(0);
        talk.server.take(-1);
        talk.server.take(Integer.MIN_VALUE);
        Check.same("none is taken", talk.server.waiting(), 6);
        talk.server.take(1);
        Check.same("five wait", talk.server.waiting(), 5);
        Check.same("the first is gone", talk.server.out(0), 4);
        Check.throwsNoSuch("out 5", () -> talk.server.out(5));
        talk.bytes(80, 82, 73, 10).frame(Talk.SETTINGS, 0, 0);
        Check.same("what comes stands behind", talk.said().toString(), "[4, 0, 0, 3, 4, 0, 4, 1, 0]");
        Check.same("none waits", talk.server.waiting(), 0);
        Check.throwsNoSuch("out 0", () -> talk.server.out(0));
        talk.server.take(1);
        Check.same("none can be taken", talk.server.waiting(), 0);

        talk.frame(Talk.PING, 0, 0, 255, 128, 127, 0);
        Check.same("bytes are 0 .. 255", talk.server.out(4) + " " + talk.server.out(5), "255 128");
        talk.server.take(Integer.MAX_VALUE);
        Check.same("all, if there are no more", talk.server.waiting(), 0);
        talk.frame(Talk.PING, 0, 0, 1, 2, 3, 4);
        talk.server.take(8);
        Check.same("just all", talk.server.waiting(), 0);
        manyWait();
        Check.end();
    }

    /** The most that can wait: 300, and then the bodies of four streams at once. */
    private static void manyWait() {
        Talk talk = Talk.withPages();
        talk.frame(Talk.SETTINGS, 0, 0, 4, 0, 5, 16).frame(Talk.WINDOW, 0, 0, 3, 0);
        for (int k = 0; k < 4; k++) {
            talk.ask(1 + 2 * k, Talk.getting(k % 2 == 0 ? 'a' : 'b'));
        }
        talk.takeAll();
        for (int k = 0; k < 37; k++) {
            talk.frame(Talk.PING, 0, 0, 1, 2, 3, 4);
        }
        talk.frame(Talk.SETTINGS, 0, 0);
        Check.same("300 wait", talk.server.waiting(), 300);
        talk.frame(Talk.SETTINGS, 0, 0, 4, 255);
        Check.same("all that was sent waits", talk.server.waiting(), 300 + 4 + 4 * (60 + 4 * 4));
        Check.same("the last byte", talk.server.out(607), 2);
        talk.server.take(300);
        String end = talk.told();
        String last = "DATA 1 of 1: 1*12; DATA 1 of 3: 2*12; DATA 1 of 5: 1*12; DATA 1 of 7: 2*12";
        Check.same("it ends with the last ones", end.endsWith(last), true);
    }
}
