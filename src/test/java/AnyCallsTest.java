import java.util.NoSuchElementException;
import java.util.Random;

/** No run of calls throws what the document does not name, and what is told always fits together. */
public final class AnyCallsTest {
    private static final int RUNS = 3000;

    public static void main(String[] args) {
        for (int seed = 0; seed < RUNS; seed++) {
            run(new Random(seed), seed);
        }
        Check.end();
    }

    private static void run(Random random, int seed) {
        PageServer server = new PageServer();
        boolean begins = random.nextInt(20) > 0;
        if (begins) {
            server.feed(0x5052490a, 4);
            server.feed(0x00040000, 4);
        }
        for (int call = 0; call < 500; call++) {
            try {
                oneCall(server, random);
            } catch (RuntimeException e) {
                Check.same("run " + seed + ", call " + call, e, "nothing thrown");
                return;
            }
        }
        int waits = server.waiting();
        Check.same("what waits", waits >= 0 && waits < 700, true);
        Check.same("open", server.about(1) >= 0 && server.about(1) <= 4, true);
        Check.same("entries", server.about(6) <= server.about(4) && server.about(5) <= 8, true);
        Check.same("block", server.about(7) <= 100, true);
        Check.same("window", server.about(2) >= 0 && server.about(2) <= 30000, true);
        Check.same("longest", server.about(3) >= 16, true);
    }

    private static void oneCall(PageServer server, Random random) {
        int any = random.nextInt(4) == 0 ? random.nextInt() : random.nextInt(12) - 2;
        switch (random.nextInt(20)) {
            case 0:
                ask(() -> server.page('a' + random.nextInt(12), 0, random.nextInt(63) - 1, random.nextInt(256)));
                break;
            case 1:
                ask(() -> server.page(random.nextInt(), any, 1, 1));
                break;
            case 2:
                ask(() -> server.out(any));
                break;
            case 3:
                ask(() -> server.stream(random.nextInt(10), any));
                break;
            case 4:
                ask(() -> server.entry(any, random.nextInt(4) - 1, random.nextInt(8) - 1));
                break;
            case 5:
                server.about(any);
                break;
            case 6:
                server.take(random.nextInt(300));
                break;
            case 7:
                if (server.away() != 0) {
                    server.restart();
                    server.feed(0x5052490a, 4);
                    server.feed(0x00040000, 4);
                }
                break;
            default:
                feedFrame(server, random);
                break;
        }
    }

    private static void ask(Runnable call) {
        try {
            call.run();
        } catch (NoSuchElementException | IllegalArgumentException | IllegalStateException e) {
            if (e.getClass() != NoSuchElementException.class && e.getClass() != IllegalArgumentException.class
                    && e.getClass() != IllegalStateException.class) {
                throw e;
            }
        }
    }

    private static void feedFrame(PageServer server, Random random) {
        int type = new int[] {0, 1, 1, 1, 3, 4, 6, 8, 8, 9, 2}[random.nextInt(11)];
        int[] body = new int[random.nextInt(random.nextInt(8) == 0 ? 100 : 9)];
        int[] likely = {129, 131, 132, 67, 64, 0, 1, 2, '/', 'a', 'b', 4, 5, 20, 40, 136};
        for (int k = 0; k < body.length; k++) {
            body[k] = random.nextInt(6) == 0 ? random.nextInt(256) : likely[random.nextInt(likely.length)];
        }
        int flags = random.nextInt(4) == 0 ? random.nextInt(16) : random.nextInt(2) * 4 + random.nextInt(2);
        int stream = random.nextInt(3) == 0 ? 0 : random.nextInt(12) | 1;
        server.feed(body.length << 24 | type << 16 | flags << 8 | stream, 4);
        for (int k = 0; k < body.length; k++) {
            server.feed(body[k], 1);
        }
    }
}
