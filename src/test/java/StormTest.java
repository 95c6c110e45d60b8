import java.util.NoSuchElementException;
import java.util.Random;

/** Random runs of 512 calls, of wrong arguments too, each answer beside the one of the plain model. */
public final class StormTest {
    private static final Due due = new Due();
    private static final int CALLS = 512;
    private static final int[] EDGES = {
        Integer.MIN_VALUE, -2, -1, 0, 1, 2, 3, 4, 7, 8, 9, 10, 31, 32, 63, 64, 4096, 4097, Integer.MAX_VALUE};
    private static final long[] LONG_EDGES = {Long.MIN_VALUE, -1, 0, 1, Integer.MAX_VALUE, Long.MAX_VALUE};
    // No item's value here: those are ints.
    private static final long THROWN = Long.MIN_VALUE;

    private final long seed;
    private final Random random;
    private final MonitorQueues x;
    private final PlainModel model;
    private final int queues;
    private final int units;
    private int step;

    private StormTest(long seed) {
        this.seed = seed;
        random = new Random(seed);
        int room = random.nextInt(8) == 0 ? random.nextInt(6) - 1 : random.nextInt(60) + 1;
        queues = random.nextInt(6) + 1;
        units = random.nextInt(4) + 1;
        x = new MonitorQueues(room);
        model = new PlainModel(room);
    }

    private int some(int from, int to) {
        return random.nextInt(40) == 0 ? EDGES[random.nextInt(EDGES.length)] : from + random.nextInt(to - from + 1);
    }

    private long time() {
        return random.nextInt(300) == 0 ? LONG_EDGES[random.nextInt(LONG_EDGES.length)]
                : step / 8 + random.nextInt(9) - 4;
    }

    private int queue() {
        return some(0, queues - 1);
    }

    /** Mostly the kind that the queue has, for any other is refused. */
    private int kindFor(int queue) {
        int kind = queue >= 0 && queue < 32 ? (int) model.count(32 + queue) : -1;
        return kind == -1 || random.nextInt(10) == 0 ? some(0, 3) : kind;
    }

    private void same(String call, long got, long want) {
        due.is("seed " + seed + ", call " + (step + 1) + ": " + call, got, want);
    }

    private void putOne() {
        int queue = queue();
        int kind = kindFor(queue);
        int unit = some(0, units);
        long v = random.nextInt();
        same("put(" + queue + ", " + kind + ", " + v + ", " + unit + ")", x.put(queue, kind, v, unit),
                model.put(queue, kind, v, unit));
    }

    private void getOne() {
        int queue = queue();
        int item = some(1, 9);
        long got;
        long want;
        try {
            got = x.get(queue, item);
        } catch (NoSuchElementException e) {
            got = THROWN;
        }
        try {
            want = model.get(queue, item);
        } catch (NoSuchElementException e) {
            want = THROWN;
        }
        same("get(" + queue + ", " + item + ")", got, want);
    }

    private void readOne() {
        int queue = queue();
        int other = some(0, 9);
        long v = random.nextInt();
        if (random.nextBoolean()) {
            same("next(" + queue + ", " + other + ")", x.next(queue, other), model.next(queue, other));
        } else {
            same("rewrite(" + queue + ", " + other + ", " + v + ")", x.rewrite(queue, other, v),
                    model.rewrite(queue, other, v));
        }
    }

    private void takeOne() {
        int queue = queue();
        long number = x.take(queue);
        same("take(" + queue + ")", number, model.take(queue));
    }

    private void triggerOne() {
        int queue = queue();
        int count = some(0, 4);
        int code = random.nextInt();
        same("trigger(" + queue + ", " + count + ", " + code + ")", x.trigger(queue, count, code),
                model.trigger(queue, count, code));
    }

    private void taskOne() {
        int task = some(1, (int) model.count(65) + 1);
        if (random.nextInt(3) == 0) {
            same("started(" + task + ")", x.started(task), model.started(task));
        } else {
            same("end(" + task + ")", x.end(task), model.end(task));
        }
    }

    private void delayOne() {
        int code = random.nextInt();
        int delay = some(1, step / 10 + 2);
        long time = time();
        switch (random.nextInt(4)) {
            case 0: case 1:
                same("delay(" + code + ", " + time + ")", x.delay(code, time), model.delay(code, time));
                break;
            case 2:
                same("cancel(" + delay + ")", x.cancel(delay), model.cancel(delay));
                break;
            default:
                same("tick(" + time + ")", x.tick(time), model.tick(time));
        }
    }

    private void unitOne() {
        int unit = some(1, units);
        boolean commits = random.nextBoolean();
        same("unit(" + unit + ", " + commits + ")", x.unit(unit, commits), model.unit(unit, commits));
    }

    private void countOne() {
        int what = random.nextInt(3) == 0 ? some(64, 67) : some(0, 63);
        long time = time();
        if (random.nextInt(4) == 0) {
            same("age(" + time + ")", x.age(time), model.age(time));
        } else {
            same("count(" + what + ")", x.count(what), model.count(what));
        }
    }

    private void call() {
        switch (random.nextInt(16)) {
            case 0: case 1: case 2: case 3: case 4: putOne(); break;
            case 5: getOne(); break;
            case 6: case 7: readOne(); break;
            case 8: case 9: takeOne(); break;
            case 10: triggerOne(); break;
            case 11: case 12: taskOne(); break;
            case 13: delayOne(); break;
            case 14: unitOne(); break;
            default: countOne();
        }
    }

    private void run() {
        // The counts at the end are calls too.
        int calls = CALLS - 68 - (int) (seed % 200);
        for (step = 0; step < calls; step++) {
            call();
        }
        for (int what = 0; what < 68; what++) {
            same("count(" + what + ")", x.count(what), model.count(what));
        }
    }

    public static void main(String[] args) {
        due.sentence("What it is", "An object is used for at most 512 calls after it has been made");
        // A run goes astray behind its first wrong answer: more runs would tell no more.
        for (long seed = 0; seed < 3000 && due.allRight(); seed++) {
            new StormTest(seed).run();
        }
        due.finish();
    }
}
