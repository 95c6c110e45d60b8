import java.util.NoSuchElementException;
import java.util.Random;

/** Many runs of 512 calls, of wrong arguments too: nothing but get's exception escapes, and the counts agree. */
public final class StormTest {
    private static final Due due = new Due();
    private static final int[] EDGES = {Integer.MIN_VALUE, -2, -1, 0, 1, 2, 8, 9, 10, 31, 32, 4096, 4097, Integer.MAX_VALUE};
    private static final long[] LONG_EDGES = {Long.MIN_VALUE, -1, 0, 1, Integer.MAX_VALUE, Long.MAX_VALUE};

    private final Random random;
    private final MonitorQueues x;
    private final int room;

    private StormTest(long seed) {
        random = new Random(seed);
        room = random.nextInt(60) + 1;
        x = new MonitorQueues(room);
    }

    private int below(int bound) {
        return random.nextInt(30) == 0 ? EDGES[random.nextInt(EDGES.length)] : random.nextInt(bound);
    }

    private long longBelow(int bound) {
        return random.nextInt(200) == 0 ? LONG_EDGES[random.nextInt(LONG_EDGES.length)] : random.nextInt(bound);
    }

    private long call(int step) {
        switch (random.nextInt(14)) {
            case 0: case 1: case 2: return x.put(below(6), below(4), random.nextLong(), below(4));
            case 3: return x.get(below(6), below(6));
            case 4: return x.next(below(6), below(8));
            case 5: return x.take(below(6));
            case 6: return x.trigger(below(6), below(4), random.nextInt());
            case 7: return x.started(below(50));
            case 8: return x.end(below(50));
            case 9: return x.rewrite(below(6), below(6), random.nextLong());
            case 10: return x.delay(random.nextInt(), longBelow(step / 8 + 5));
            case 11: return random.nextBoolean() ? x.cancel(below(40)) : x.tick(longBelow(step / 8 + 2));
            case 12: return x.unit(below(4), random.nextBoolean());
            default: return random.nextInt(4) == 0 ? x.age(longBelow(step / 8 + 1)) : x.count(below(70));
        }
    }

    private void agree(long seed) {
        int sum = 0;
        for (int q = 0; q < 32; q++) {
            sum += x.count(q);
            int kind = x.count(32 + q);
            due.is("seed " + seed + ": an empty queue alone has no kind", kind == -1 ? 1 : 0, x.count(q) == 0 ? 1 : 0);
        }
        due.is("seed " + seed + ": all items", x.count(64), sum);
        due.is("seed " + seed + ": within the room", sum <= room ? 1 : 0, 1);
        due.is("seed " + seed + ": tasks that go began", x.count(66) <= x.count(65) ? 1 : 0, 1);
        due.is("seed " + seed + ": delays that wait", x.count(67) <= 200 ? 1 : 0, 1);
    }

    public static void main(String[] args) {
        due.sentence("The public face", "throws NoSuchElementException");
        for (long seed = 0; seed < 2000; seed++) {
            StormTest storm = new StormTest(seed);
            // The counts at the end are calls too.
            int calls = 512 - 32 * 3 - 8 - (int) (seed % 300);
            for (int step = 0; step < calls; step++) {
                try {
                    storm.call(step);
                } catch (NoSuchElementException e) {
                    // get's own answer
                } catch (RuntimeException e) {
                    due.is("seed " + seed + ", step " + step + ": " + e, 1, 0);
                }
            }
            storm.agree(seed);
        }
        due.finish();
    }
}
