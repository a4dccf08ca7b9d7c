import java.util.Arrays;
import java.util.Random;

/** Promise 3: feed, and how the bytes of 'Terms' are cut into frames. */
public final class FeedTest {
    public static void main(String[] args) {
        Check.run(FeedTest::lowestBytes,
                FeedTest::wrongNumberOfBytes,
                FeedTest::mostOutput,
                FeedTest::mostOutputWithinFrame,
                FeedTest::mostOutputBehindAway,
                FeedTest::prefaceFirst,
                FeedTest::wrongPreface,
                FeedTest::bytesAsLengthSays,
                FeedTest::twoBytesOneNumber,
                FeedTest::piecesOfAnySize);
    }

    private static void lowestBytes() {
        Check.of("Promise 3", "The n lowest bytes of word (n is 1 .. 4) come, the highest of them first");
        Talk talk = new Talk();
        Check.same("1", talk.feed(0x11223350, 1), true);
        Check.same("2", talk.feed(0x99995249, 2), true);
        Check.same("3", talk.feed(0xff0a0004, 3), true);
        Check.same("2 again", talk.feed(0x77770000, 2), true);
        Check.same("what is said", talk.told(), "SETTINGS 0 of 0: 3 4; SETTINGS 1 of 0:");
        talk.feed(0x04060000, 4);
        talk.feed(0xfffefdfc, 4);
        Check.same("4", talk.told(), "PING 1 of 0: 255 254 253 252");
    }

    private static void wrongNumberOfBytes() {
        Check.of("Promise 3", "false, changing nothing, when n is not as said");
        int[][] before = {{}, {80, 82}, {80, 82, 73, 10}, {80, 82, 73, 10, 0, 4, 0, 0, 4, 6},
            {80, 82, 73, 10, 0, 4, 0, 0, 4, 6, 0, 0, 1, 2, 3}};
        for (int[] come : before) {
            for (int n : new int[] {0, -1, 5, 6, 8, 257, -4, Integer.MIN_VALUE, Integer.MAX_VALUE}) {
                Talk talk = new Talk();
                talk.bytes(come);
                String all = talk.all();
                String what = n + " bytes behind " + come.length;
                Check.same(what, talk.feed(0x01010101, n), false);
                Check.same(what + ", then all", talk.all(), all);
                int[] whole = {80, 82, 73, 10, 0, 4, 0, 0, 4, 6, 0, 0, 1, 2, 3, 4};
                talk.bytes(Arrays.copyOfRange(whole, come.length, whole.length));
                Check.same(what + ", then the rest", talk.told(),
                        "SETTINGS 0 of 0: 3 4; SETTINGS 1 of 0:; PING 1 of 0: 1 2 3 4");
            }
        }
    }

    /** A talk in which 300 bytes wait. */
    private static Talk threeHundred() {
        Talk talk = Talk.withPages();
        for (int k = 0; k < 37; k++) {
            talk.ping();
        }
        talk.settings();
        Check.same("it waits", talk.waiting(), 300);
        return talk;
    }

    private static void mostOutput() {
        Check.of("Promise 3", "or more than 300 bytes of output wait");
        Talk talk = threeHundred();
        Check.same("300 wait, feed", talk.feed(0x04060000, 4), true);
        Check.same("300 wait still, feed", talk.feed(0x01020304, 4), true);
        Check.same("they came", talk.waiting(), 308);
        Check.same("308 wait, feed", talk.feed(0x04060000, 4), false);
        talk.take(7);
        Check.same("301 wait, feed", talk.feed(0x04060000, 4), false);
        Check.same("301 wait, feed of 1", talk.feed(0, 1), false);
        talk.take(1);
        Check.same("300 wait again", talk.waiting(), 300);
        talk.ping();
        Check.same("nothing of what was refused came", talk.waiting() + " " + talk.away(), "308 0");
    }

    private static void mostOutputWithinFrame() {
        Check.of("Promise 3", "false, changing nothing, when n is not as said, or more than 300 bytes of output wait");
        Talk talk = threeHundred();
        // The last byte of a PING comes together with the first two of RESET.
        talk.bytes(4, 6, 0, 0, 1, 2, 3);
        talk.feed(0x040103, 3);
        String before = talk.state() + " " + talk.waiting() + " " + talk.away();
        Check.same("308 wait, feed", talk.feed(0x0001, 2), false);
        Check.same("then what is told", talk.state() + " " + talk.waiting() + " " + talk.away(), before);
        talk.take(8);
        talk.bytes(0, 1);
        Check.same("the frame is not whole", talk.away(), 0);
        talk.bytes(8);
        Check.same("RESET of an idle stream is", talk.away(), 1);
    }

    private static void mostOutputBehindAway() {
        Check.of("Promise 3", "or more than 300 bytes of output wait");
        Talk talk = threeHundred();
        talk.bytes(201, 0, 0, 0);
        Check.same("AWAY waits too", talk.waiting() + " " + talk.away(), "306 6");
        Check.same("306 wait, feed", talk.feed(0, 4), false);
        talk.take(5);
        Check.same("301 wait, feed", talk.feed(0, 4), false);
        talk.take(1);
        Check.same("300 wait, feed", talk.feed(0, 4), true);
    }

    private static void prefaceFirst() {
        Check.of("Terms, BYTES", "BYTES that come are first the PREFACE 80, 82, 73, 10, then FRAMES");
        Talk talk = new Talk().hushed();
        talk.bytes(80).bytes(82).bytes(73);
        Check.same("three bytes", talk.told() + talk.away(), "0");
        talk.bytes(10);
        Check.same("four bytes", talk.told() + talk.away(), "0");
        talk.settings();
        Check.same("then a frame", talk.told(), "SETTINGS 1 of 0:");
        Talk none = new Talk().hushed();
        none.settings();
        Check.same("a frame without it", none.told(), "AWAY 0 of 0: 0 1");
    }

    private static void wrongPreface() {
        Check.of("Terms, A preface", "A preface with another byte: AWAY 1 at this byte");
        int[] bytes = {80, 82, 73, 10};
        for (int place = 0; place < 4; place++) {
            for (int other : new int[] {0, 255, bytes[place] - 1, bytes[place] + 1, bytes[(place + 1) % 4]}) {
                Talk talk = new Talk().hushed();
                talk.bytes(Arrays.copyOf(bytes, place));
                String what = other + " behind " + place + " bytes";
                Check.same("before " + what, talk.told() + talk.away(), "0");
                talk.bytes(other);
                Check.same(what, talk.told() + " " + talk.away(), "AWAY 0 of 0: 0 1 1");
            }
        }
    }

    private static void bytesAsLengthSays() {
        Check.of("Terms, BYTES", "and as many bytes as the length says");
        for (int length : new int[] {0, 1, 2, 199, 200}) {
            Talk talk = Talk.begun();
            talk.frame(2, 0, 0, Talk.times(length, 1)).ping();
            Check.same(length + " bytes, then PING", talk.told(), "PING 1 of 0: 1 2 3 4");
        }
        Talk talk = Talk.begun();
        talk.bytes(1, 3, 0, 9);
        Check.same("none of 1", talk.away(), 0);
        talk.bytes(0);
        Check.same("1 of 1", talk.away(), 1);
        Talk none = Talk.begun();
        none.bytes(0, 6, 0);
        Check.same("a head of three bytes", none.away(), 0);
        none.bytes(0);
        Check.same("a head, and no bytes", none.away(), 6);
    }

    private static void twoBytesOneNumber() {
        Check.of("Terms, BYTES", "Two bytes that are one number have the higher first");
        Talk talk = Talk.withPages();
        talk.frame(Talk.WINDOW, 0, 0, 1, 2);
        Check.same("the connection's window", talk.about(2), 100 + 258);
        talk.askOpen(1, Talk.getting('a')).frame(Talk.WINDOW, 0, 1, 2, 1);
        Check.same("a stream's window", talk.stream(1, 0), 40 + 513);
        talk.frame(Talk.DATA, 0, 1, Talk.times(50, 0));
        Check.same("WINDOW that is sent", talk.told(), "WINDOW 0 of 0: 0 50; WINDOW 0 of 1: 0 50");
    }

    private static void piecesOfAnySize() {
        Check.of("What it is", "bytes come in pieces of any size and are cut into frames");
        int[] all = Talk.join(new int[] {80, 82, 73, 10, 2, 4, 0, 0, 5, 20},
                new int[] {5, 1, 5, 1, 129, 67, 2, '/', 'a'}, new int[] {4, 6, 0, 0, 9, 8, 7, 6},
                new int[] {2, 1, 0, 3, 129, 3, 2, 9, 4, 3, 1, '/'}, new int[] {2, 8, 0, 0, 0, 50});
        for (int seed = 0; seed < 50; seed++) {
            Random random = new Random(seed);
            Talk talk = new Talk();
            talk.page('a', 0, 60, 4);
            int at = 0;
            while (at < all.length) {
                int n = seed < 4 ? seed + 1 : 1 + random.nextInt(4);
                int end = Math.min(all.length, at + n);
                talk.bytes(Arrays.copyOfRange(all, at, end));
                at = end;
            }
            Check.same("pieces " + seed, talk.state() + " | " + talk.told(),
                    "3 2 110 20 24 1 6 4 | SETTINGS 0 of 0: 3 4; SETTINGS 1 of 0:; "
                    + "HEADERS 4 of 1: 134; DATA 0 of 1: 4*20; DATA 0 of 1: 4*20; PING 1 of 0: 9 8 7 6");
        }
    }
}
