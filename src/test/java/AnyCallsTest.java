import java.util.Arrays;
import java.util.NoSuchElementException;
import java.util.Random;

/** All promises: no run of calls throws what the document does not name, and what is told fits together. */
public final class AnyCallsTest {
    private static final int RUNS = 3000;
    /** So many calls that one more step, and what is looked at behind it, end within 512. */
    private static final int LAST_STEP = 390;

    public static void main(String[] args) {
        Check.run(AnyCallsTest::nothingElseIsThrown,
                AnyCallsTest::questionsChangeNothing);
    }

    private static void nothingElseIsThrown() {
        for (int seed = 0; seed < RUNS; seed++) {
            anyCalls(new Random(seed), seed);
        }
    }

    private static void questionsChangeNothing() {
        for (int seed = 0; seed < RUNS; seed++) {
            questionsChangeNothing(seed);
        }
    }

    private static Talk begin(Random random) {
        Talk talk = new Talk();
        if (random.nextInt(20) > 0) {
            talk.preface().settings();
        }
        return talk;
    }

    private static void anyCalls(Random random, int seed) {
        Check.of("Not promised", "Nothing is promised beyond the answers and state changes described above");
        Talk talk = begin(random);
        while (talk.calls() < LAST_STEP) {
            try {
                oneStep(talk, random);
            } catch (RuntimeException e) {
                Check.same("run " + seed + ", call " + talk.calls(), e, "nothing thrown");
                return;
            }
        }
        Check.of("Terms, HEADERS", "4 others are OPEN: RESET 7");
        int open = talk.about(1);
        Check.same("run " + seed + ", open", open >= 0 && open <= 4, true);
        Check.of("Terms, ENTRIES", "All together take at most SIZE");
        Check.same("run " + seed + ", entries", talk.about(6) <= talk.about(4), true);
        Check.of("Promise 9", "a piece by which it would be longer than 100 does not count");
        Check.same("run " + seed + ", block", talk.about(7) <= 100, true);
        Check.of("Terms, WINDOW", "its window would be above 30000: AWAY 3");
        int window = talk.about(2);
        Check.same("run " + seed + ", window", window >= 0 && window <= 30000, true);
        Check.of("Terms, SETTINGS", "below 16: AWAY 1");
        Check.same("run " + seed + ", longest", talk.about(3) >= 16, true);
    }

    private static void oneStep(Talk talk, Random random) {
        switch (random.nextInt(14)) {
            case 0:
                oneQuestion(talk, random);
                break;
            case 1:
                talk.take(random.nextInt(300));
                break;
            case 2:
                if (talk.away() != 0) {
                    talk.restart();
                    talk.preface().settings();
                }
                break;
            case 3:
                ask(() -> talk.page('a' + random.nextInt(12), 0, random.nextInt(61), random.nextInt(256)));
                break;
            default:
                feed(talk, random, anyFrame(random));
                break;
        }
    }

    /** A call that changes nothing, whatever it answers. */
    private static void oneQuestion(Talk talk, Random random) {
        int any = random.nextInt(4) == 0 ? random.nextInt() : random.nextInt(12) - 2;
        switch (random.nextInt(9)) {
            case 0:
                ask(() -> talk.page(0x80 | random.nextInt(), any, 1, 1));
                break;
            case 1:
                ask(() -> talk.page('q', 0, 61 + random.nextInt(100), any));
                break;
            case 2:
                ask(() -> talk.out(any));
                break;
            case 3:
                ask(() -> talk.stream(random.nextInt(10), any));
                break;
            case 4:
                ask(() -> talk.entry(any, random.nextInt(4) - 1, random.nextInt(8) - 1));
                break;
            case 5:
                talk.about(any);
                break;
            case 6:
                talk.take(-random.nextInt(9));
                break;
            case 7:
                Check.same("feed of none", talk.feed(any, 0), false);
                break;
            default:
                Check.same("feed of five", talk.feed(any, 5), false);
                break;
        }
    }

    private static void ask(Runnable call) {
        try {
            call.run();
        } catch (NoSuchElementException | IllegalArgumentException | IllegalStateException e) {
            if (e.getClass() != NoSuchElementException.class && e.getClass() != IllegalArgumentException.class
                    && e.getClass() != IllegalStateException.class) {
                throw e;
            }
        }
    }

    private static int[] anyFrame(Random random) {
        int type = new int[] {0, 1, 1, 1, 3, 4, 6, 8, 8, 9, 2}[random.nextInt(11)];
        int[] body = new int[random.nextInt(random.nextInt(8) == 0 ? 100 : 9)];
        int[] likely = {129, 131, 132, 67, 64, 0, 1, 2, '/', 'a', 'b', 4, 5, 20, 40, 136};
        for (int k = 0; k < body.length; k++) {
            body[k] = random.nextInt(6) == 0 ? random.nextInt(256) : likely[random.nextInt(likely.length)];
        }
        int flags = random.nextInt(4) == 0 ? random.nextInt(16) : random.nextInt(2) * 4 + random.nextInt(2);
        int stream = random.nextInt(3) == 0 ? 0 : random.nextInt(12) | 1;
        return Talk.join(new int[] {body.length, type, flags, stream}, body);
    }

    /** In pieces of any size; it may be refused. */
    private static void feed(Talk talk, Random random, int[] bytes) {
        int at = 0;
        while (at < bytes.length) {
            int n = Math.min(bytes.length - at, 1 + random.nextInt(4));
            int word = random.nextInt();
            for (int k = 0; k < n; k++) {
                word = word << 8 | bytes[at + k];
            }
            talk.feed(word, n);
            at += n;
        }
    }

    /** Two objects get the same frames, one of them questions and refused calls too. */
    private static void questionsChangeNothing(int seed) {
        Check.of("Promises 2 and 3", "changing nothing");
        Talk quiet = Talk.withPages();
        Talk asked = Talk.withPages();
        Random frames = new Random(seed);
        Random questions = new Random(-1 - seed);
        while (asked.calls() < 150) {
            int[] frame = anyFrame(frames);
            if (questions.nextInt(3) > 0) {
                asked.bytes(frame);
            } else {
                int half = frame.length / 2;
                asked.bytes(Arrays.copyOf(frame, half));
                oneQuestion(asked, questions);
                asked.bytes(Arrays.copyOfRange(frame, half, frame.length));
            }
            quiet.bytes(frame);
            oneQuestion(asked, questions);
            int waiting = quiet.waiting();
            if (waiting > 100) {
                quiet.take(waiting - 50);
                asked.take(waiting - 50);
            }
        }
        Check.same("run " + seed, asked.all(), quiet.all());
    }
}
