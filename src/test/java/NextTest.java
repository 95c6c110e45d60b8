/** Promise 4: next. */
public final class NextTest {
    private static final Due due = new Due();

    private static void places() {
        due.sentence("Promise 4", "A reader's next item of a temporary queue, which is its place then: its number.");
        MonitorQueues x = new MonitorQueues(100);
        for (int i = 0; i < 3; i++) {
            x.put(31, 0, i, 0);
            x.put(0, 1, i, 0);
        }
        due.is("the first", x.next(31, 7), 1);
        due.is("the second", x.next(31, 7), 2);
        due.is("another reader's first", x.next(31, 0), 1);
        due.is("another queue's first", x.next(0, 7), 1);
        due.item("get moves nobody", x, 31, 1, 0L);
        x.rewrite(31, 1, 5L);
        due.is("the third", x.next(31, 7), 3);
        due.is("another reader's second", x.next(31, 0), 2);
        due.is("nothing went", x.count(31), 3);
    }

    private static void pendingOnes() {
        due.sentence("Promise 4", "A reader's next item of a temporary queue, which is its place then: its number.");
        MonitorQueues x = new MonitorQueues(100);
        x.put(0, 1, 1L, 0);
        x.put(0, 1, 2L, 8);
        due.is("the one that stands", x.next(0, 2), 1);
        due.is("the pending one", x.next(0, 2), 2);
        x.unit(8, false);
        due.is("its place is behind the last", x.next(0, 2), -4);
        x.put(0, 1, 3L, 0);
        due.is("its place is the last", x.next(0, 2), -4);
        x.put(0, 1, 4L, 0);
        due.is("on from its place", x.next(0, 2), 3);
    }

    private static void noSuchQueue() {
        due.sentence("Promise 4", "-2 when queue or reader is not so");
        MonitorQueues x = new MonitorQueues(100);
        x.put(0, 0, 1L, 0);
        x.put(31, 0, 1L, 0);
        for (int queue : Due.outside(0, 31)) {
            due.is("queue " + queue, x.next(queue, 0), -2);
            due.is("queue " + queue + ", reader 8", x.next(queue, 8), -2);
        }
        due.is("queue 0", x.next(0, 0), 1);
        due.is("queue 31", x.next(31, 0), 1);
    }

    private static void noSuchReader() {
        due.sentence("Promise 4", "-2 when queue or reader is not so");
        MonitorQueues x = new MonitorQueues(100);
        x.put(0, 0, 1L, 0);
        x.put(1, 2, 1L, 0);
        for (int reader : Due.outside(0, 7)) {
            due.is("reader " + reader, x.next(0, reader), -2);
            due.is("reader " + reader + " of a transient one", x.next(1, reader), -2);
            due.is("reader " + reader + " of an empty one", x.next(2, reader), -2);
        }
        for (int reader = 0; reader < 8; reader++) {
            due.is("reader " + reader, x.next(0, reader), 1);
        }
    }

    private static void transientOnes() {
        due.sentence("Promise 4", "-3 when it is transient");
        MonitorQueues x = new MonitorQueues(100);
        x.put(0, 2, 1L, 0);
        x.put(1, 3, 1L, 0);
        x.put(2, 3, 1L, 1);
        int[] before = Due.counts(x);
        due.is("transient", x.next(0, 0), -3);
        due.is("transient and protected", x.next(1, 0), -3);
        due.is("transient and locked", x.next(2, 7), -3);
        due.unchanged("next of transient ones", x, before);
        x.take(0);
        x.put(0, 0, 1L, 0);
        due.is("its place did not move", x.next(0, 0), 1);
    }

    private static void behindTheLast() {
        due.sentence("Promise 4", "-4 behind the last one");
        MonitorQueues x = new MonitorQueues(100);
        x.put(0, 0, 1L, 0);
        due.is("the last", x.next(0, 3), 1);
        due.is("behind it", x.next(0, 3), -4);
        due.is("behind it, again", x.next(0, 3), -4);
        due.is("another reader is not", x.next(0, 4), 1);
        x.put(0, 0, 9L, 0);
        due.is("its place stayed the last", x.next(0, 3), 2);
        due.is("behind that", x.next(0, 3), -4);
    }

    private static void emptyOnes() {
        due.sentence("Promise 4", "or when it is empty");
        MonitorQueues x = new MonitorQueues(100);
        due.is("new", x.next(0, 0), -4);
        due.is("new, the last ones", x.next(31, 7), -4);
        due.is("it has no kind still", x.count(32), -1);
        x.put(0, 0, 1L, 0);
        x.tick(1L);
        x.age(1L);
        due.is("aged", x.next(0, 0), -4);
        x.put(0, 1, 3L, 6);
        x.unit(6, false);
        due.is("gone with a unit", x.next(0, 0), -4);
        x.put(0, 2, 1L, 0);
        x.take(0);
        due.is("all taken", x.next(0, 0), -4);
        x.trigger(0, 1, 1);
        due.is("with a trigger", x.next(0, 0), -4);
    }

    public static void main(String[] args) {
        places();
        pendingOnes();
        noSuchQueue();
        noSuchReader();
        transientOnes();
        behindTheLast();
        emptyOnes();
        due.finish();
    }
}
