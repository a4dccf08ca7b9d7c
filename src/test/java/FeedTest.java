import java.util.Random;

/** Promise 3: how bytes come, the preface, and how they are cut into frames. */
public final class FeedTest {
    public static void main(String[] args) {
        wrongNumbers();
        lowestBytes();
        fullOutput();
        preface();
        tooLong();
        firstFrame();
        wholeFrames();
        piecesOfAnySize();
        afterAway();
        Check.end();
    }

    private static void wrongNumbers() {
        Talk talk = new Talk();
        for (int n : new int[] {0, -1, 5, Integer.MIN_VALUE, Integer.MAX_VALUE, 256 + 1}) {
            Check.same("feed of " + n, talk.server.feed(0x01010101, n), false);
        }
        Check.same("nothing came", talk.server.away(), 0);
    }

    private static void lowestBytes() {
        Talk talk = new Talk();
        talk.server.feed(0x11223350, 1);
        talk.server.feed(0x99995249, 2);
        talk.server.feed(0xff0a0004, 3);
        talk.server.feed(0x77770000, 2);
        Check.same("the lowest, the highest first", talk.told(), "SETTINGS 0 of 0: 3 4; SETTINGS 1 of 0:");
    }

    private static void fullOutput() {
        Talk talk = Talk.begun();
        for (int k = 0; k < 37; k++) {
            talk.frame(Talk.PING, 0, 0, 1, 2, 3, 4);
        }
        talk.frame(Talk.SETTINGS, 0, 0);
        Check.same("300 wait", talk.server.waiting(), 300);
        talk.frame(Talk.PING, 0, 0, 1, 2, 3, 4);
        Check.same("308 wait", talk.server.waiting(), 308);
        Check.same("feed is refused", talk.server.feed(0x01010101, 4), false);
        talk.server.take(7);
        Check.same("301 wait", talk.server.waiting(), 301);
        Check.same("feed is refused at 301", talk.server.feed(0x01010101, 4), false);
        talk.server.take(1);
        talk.frame(Talk.PING, 0, 0, 9, 9, 9, 9);
        Check.same("nothing of what was refused came", talk.server.waiting(), 308);
        Check.same("no away", talk.server.away(), 0);
    }

    private static void preface() {
        for (int wrong = 0; wrong < 4; wrong++) {
            Talk talk = new Talk();
            talk.takeAll();
            int[] bytes = {80, 82, 73, 10};
            for (int k = 0; k < wrong; k++) {
                talk.bytes(bytes[k]);
            }
            Check.same("before byte " + wrong, talk.told(), "");
            talk.bytes(bytes[wrong] + 1);
            Check.same("at byte " + wrong, talk.told(), "AWAY 0 of 0: 0 1");
            talk.bytes(bytes[wrong]);
            Check.same("behind it", talk.told(), "");
            Check.same("code", talk.server.away(), 1);
        }
    }

    private static void tooLong() {
        Talk talk = Talk.begun();
        talk.bytes(201, 2, 0);
        Check.same("three bytes are there", talk.server.away(), 0);
        talk.bytes(0);
        Check.same("four bytes are there", talk.told(), "AWAY 0 of 0: 0 6");
        Check.same("code", talk.server.away(), 6);

        Talk longest = Talk.begun();
        longest.frame(2, 0, 0, Talk.times(200, 1));
        longest.frame(Talk.PING, 0, 0, 4, 3, 2, 1);
        Check.same("200 is not too long", longest.told(), "PING 1 of 0: 4 3 2 1");

        Talk first = new Talk();
        first.takeAll();
        first.bytes(80, 82, 73, 10, 255, 1, 0, 1);
        Check.same("before all else", first.told(), "AWAY 0 of 0: 0 6");

        Talk block = Talk.begun();
        block.frame(Talk.HEADERS, 0, 1, 129).bytes(201, 0, 0, 1);
        Check.same("within a block", block.told(), "AWAY 0 of 0: 0 6");
    }

    private static void firstFrame() {
        for (int type = 0; type < 12; type++) {
            Talk talk = new Talk();
            talk.takeAll();
            talk.bytes(80, 82, 73, 10).frame(type, 0, 0);
            boolean settings = type == Talk.SETTINGS;
            Check.same("first of type " + type, talk.told(),
                    settings ? "SETTINGS 1 of 0:" : "AWAY 0 of 0: 0 1");
        }
        Talk acked = new Talk();
        acked.takeAll();
        acked.bytes(80, 82, 73, 10).frame(Talk.SETTINGS, Talk.ACK, 0);
        Check.same("first has ACK", acked.told(), "AWAY 0 of 0: 0 1");
        Talk longAck = new Talk();
        longAck.takeAll();
        longAck.bytes(80, 82, 73, 10).frame(Talk.SETTINGS, Talk.ACK, 0, 1);
        Check.same("first has ACK and a length", longAck.told(), "AWAY 0 of 0: 0 1");
        Talk otherFlags = new Talk();
        otherFlags.takeAll();
        otherFlags.bytes(80, 82, 73, 10).frame(Talk.SETTINGS, 254, 0);
        Check.same("first has other flags", otherFlags.told(), "SETTINGS 1 of 0:");
    }

    private static void wholeFrames() {
        Talk talk = Talk.begun();
        talk.bytes(1, 3, 0, 9);
        Check.same("RESET of an idle one is not whole", talk.server.away(), 0);
        talk.bytes(0);
        Check.same("it is whole", talk.server.away(), 1);
    }

    private static void piecesOfAnySize() {
        int[] all = Talk.join(new int[] {80, 82, 73, 10, 2, 4, 0, 0, 5, 20},
                new int[] {5, 1, 5, 1, 129, 67, 2, '/', 'a'}, new int[] {4, 6, 0, 0, 9, 8, 7, 6},
                new int[] {2, 1, 0, 3, 129, 3, 2, 9, 4, 3, 1, '/'}, new int[] {2, 8, 0, 0, 0, 50});
        String due = null;
        for (int seed = 0; seed < 50; seed++) {
            Random random = new Random(seed);
            Talk talk = new Talk();
            talk.server.page('a', 0, 60, 4);
            int at = 0;
            while (at < all.length) {
                int n = Math.min(all.length - at, 1 + random.nextInt(4));
                talk.bytes(java.util.Arrays.copyOfRange(all, at, at + n));
                at += n;
            }
            String state = talk.state() + " | " + talk.told();
            due = due == null ? state : due;
            Check.same("pieces " + seed, state, due);
        }
        Check.same("what they say", due, "3 2 110 20 24 1 6 4 | SETTINGS 0 of 0: 3 4; SETTINGS 1 of 0:; "
                + "HEADERS 4 of 1: 134; DATA 0 of 1: 4*20; DATA 0 of 1: 4*20; PING 1 of 0: 9 8 7 6");
    }

    private static void afterAway() {
        Talk talk = Talk.withPages();
        talk.ask(1, Talk.getting('a'));
        talk.takeAll();
        talk.frame(Talk.WINDOW, 0, 0, 0, 0);
        Check.same("away", talk.told(), "AWAY 0 of 0: 1 1");
        String state = talk.state();
        talk.frame(Talk.WINDOW, 0, 1, 0, 50);
        talk.frame(Talk.SETTINGS, 0, 0, 4, 99, 5, 5);
        talk.ask(3, Talk.getting('a'));
        talk.bytes(255, 255, 255, 255);
        Check.same("all is ignored", talk.told(), "");
        Check.same("nothing changes", talk.state(), state);
        Check.same("the code stays", talk.server.away(), 1);
        Check.same("the stream stays", talk.server.stream(1, 1), 20);
        Check.same("feed of 0", talk.server.feed(1, 0), false);
    }
}
