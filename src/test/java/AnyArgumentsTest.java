import java.util.Random;

/** Promises 1 to 8: any arguments in any order; no call throws, and all answers stay in their bounds. */
public final class AnyArgumentsTest {
    private static final int[] EDGES = {Integer.MIN_VALUE, -2049, -1, 0, 1, 2, 9, 12, 13, 20, 255, 256, 2047, 2048,
        3980, 4000, 4001, 4096, Integer.MAX_VALUE};
    private static final String[] BEGINNINGS = {"disprove ?0", "put a <", "meets 1 2", "target a=join(a", "cut ", "mend",
        "house", "refute", "wish 0 1 1", "wish 0 2 2", "refute", "go 9", "build a"};

    private final Random random;
    private final BuildHouse house = new BuildHouse();

    private AnyArgumentsTest(long seed) {
        random = new Random(seed);
    }

    public static void main(String[] args) {
        for (int seed = 0; seed < 400; seed++) {
            AnyArgumentsTest run = new AnyArgumentsTest(seed);
            for (int i = 0; i < 511; i++) {
                run.call();
            }
        }
        Talk.end();
    }

    private int any() {
        return random.nextInt(3) == 0 ? random.nextInt() : EDGES[random.nextInt(EDGES.length)];
    }

    private void call() {
        switch (random.nextInt(9)) {
            case 0: case 1: in("feed", house.feed(any(), any(), any(), any(), any()), -1, 4000); break;
            case 2: in("ask", house.ask(any()), -1, 4000); break;
            case 3: in("ask", house.ask(house.state(9) - random.nextInt(3)), -1, 4000); break;
            case 4: in("answer", house.answer(any()), -1, 255); break;
            case 5: in("disproveAnswer", house.disproveAnswer(), 0, 4000); break;
            case 6: in("state", house.state(random.nextInt(15) - 1), -1, 100000); break;
            case 7:
                in("byteAt", house.byteAt(any()), -1, 255);
                house.poke(random.nextInt(9) == 0 ? random.nextInt(30) : any(), any());
                break;
            default: askBeginning(); break;
        }
    }

    /** Asks something that is a request, or begins like one, with bytes that follow. */
    private void askBeginning() {
        StringBuilder request = new StringBuilder(BEGINNINGS[random.nextInt(BEGINNINGS.length)]);
        for (int i = random.nextInt(3) * random.nextInt(30); i > 0; i--) {
            request.append((char) (random.nextInt(4) == 0 ? random.nextInt(256) : "?!0123>):,= |".charAt(
                random.nextInt(13))));
        }
        house.ask(0);
        for (int i = 0; i < request.length(); i += 20) {
            int[] n = new int[5];
            for (int k = 0; k < 20 && i + k < request.length(); k++) {
                n[k / 4] |= request.charAt(i + k) << 24 - k % 4 * 8;
            }
            house.feed(n[0], n[1], n[2], n[3], n[4]);
        }
        in("ask", house.ask(request.length()), 0, 4000);
    }

    private static void in(String call, int got, int low, int high) {
        if (got < low || got > high) {
            Talk.due(call, got, low + " to " + high);
        }
    }
}
