/** Promise 5: take. */
public final class TakeTest {
    private static final Due due = new Due();

    private static void firstOne() {
        due.sentence("Promise 5", "The first item of a transient queue is taken: its number.");
        for (int kind = 2; kind < 4; kind++) {
            MonitorQueues x = new MonitorQueues(100);
            x.put(0, kind, 5L, 0);
            for (int i = 1; i <= 3; i++) {
                x.put(31, kind, 10L * i, 0);
            }
            for (int i = 1; i <= 3; i++) {
                due.is("take", x.take(31), i);
                due.item("what was taken", x, 31, i, 10L * i);
                due.is("those left", x.count(31), 3 - i);
            }
            due.is("another queue", x.take(0), 1);
            due.is("none left", x.count(64), 0);
        }
    }

    private static void beforePendingOnes() {
        due.sentence("Promise 5", "The first item of a transient queue is taken: its number.");
        MonitorQueues x = new MonitorQueues(100);
        x.put(0, 3, 1L, 0);
        x.put(0, 3, 2L, 7);
        due.is("from a locked queue", x.take(0), 1);
        due.is("the pending one is left", x.count(0), 1);
        due.is("it is pending still", x.unit(7, true), 1);
        due.is("it stands", x.take(0), 2);
        x.put(1, 2, 3L, 7);
        due.is("a unit's, not protected", x.take(1), 1);
    }

    private static void noSuchQueue() {
        due.sentence("Promise 5", "-2 when there is no such queue");
        MonitorQueues x = new MonitorQueues(100);
        x.put(0, 2, 1L, 0);
        x.put(31, 2, 1L, 0);
        int[] before = Due.counts(x);
        for (int queue : Due.outside(0, 31)) {
            due.is("queue " + queue, x.take(queue), -2);
        }
        due.unchanged("wrong queues", x, before);
        due.is("queue 0", x.take(0), 1);
        due.is("queue 31", x.take(31), 1);
    }

    private static void temporaryOnes() {
        due.sentence("Promise 5", "-3 when it is temporary");
        MonitorQueues x = new MonitorQueues(100);
        x.put(0, 0, 1L, 0);
        x.put(1, 1, 1L, 0);
        x.put(2, 1, 1L, 1);
        int[] before = Due.counts(x);
        due.is("temporary", x.take(0), -3);
        due.is("temporary and protected", x.take(1), -3);
        due.is("temporary and locked", x.take(2), -3);
        due.unchanged("take of temporary ones", x, before);
    }

    private static void emptyOnes() {
        due.sentence("Promise 5", "-4 when it is empty");
        MonitorQueues x = new MonitorQueues(100);
        due.is("new", x.take(0), -4);
        x.put(0, 2, 1L, 0);
        x.take(0);
        due.is("all taken", x.take(0), -4);
        due.is("again", x.take(0), -4);
        x.put(0, 3, 3L, 7);
        x.unit(7, false);
        due.is("gone with a unit", x.take(0), -4);
        x.trigger(0, 1, 1);
        due.is("with a trigger", x.take(0), -4);
        x.put(1, 0, 1L, 0);
        x.tick(1L);
        x.age(1L);
        due.is("aged", x.take(1), -4);
        due.is("no number was used up", x.put(0, 2, 1L, 0), 2);
    }

    private static void pendingOnes() {
        due.sentence("Promise 5", "-5 when that item is pending");
        MonitorQueues x = new MonitorQueues(100);
        x.put(0, 3, 1L, 0);
        x.put(0, 3, 2L, 7);
        x.put(0, 3, 3L, 7);
        due.is("the first stands", x.take(0), 1);
        int[] before = Due.counts(x);
        due.is("the first is pending", x.take(0), -5);
        due.is("again", x.take(0), -5);
        due.unchanged("take of a pending one", x, before);
        due.is("all are pending still", x.unit(7, true), 2);
        due.is("it stands", x.take(0), 2);
        x.put(1, 3, 1L, 1);
        due.is("the first item ever", x.take(1), -5);
    }

    public static void main(String[] args) {
        firstOne();
        beforePendingOnes();
        noSuchQueue();
        temporaryOnes();
        emptyOnes();
        pendingOnes();
        due.finish();
    }
}
