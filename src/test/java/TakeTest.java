/** Promise 5: take. */
public final class TakeTest {
    private static final Due due = new Due();

    private static void inOrder() {
        MonitorQueues x = new MonitorQueues(100);
        for (int i = 1; i <= 3; i++) {
            x.put(31, 2, 10L * i, 0);
        }
        for (int i = 1; i <= 3; i++) {
            due.is("take", x.take(31), i);
            due.item("what was taken", x, 31, i, 10L * i);
            due.is("those left", x.count(31), 3 - i);
        }
        due.is("empty", x.take(31), -4);
        due.is("no kind", x.count(63), -1);
    }

    private static void pending() {
        MonitorQueues x = new MonitorQueues(100);
        x.put(0, 3, 1L, 0);
        x.put(0, 3, 2L, 7);
        due.is("the one that stands", x.take(0), 1);
        due.is("the pending one", x.take(0), -5);
        due.is("it is there", x.count(0), 1);
        due.is("its kind is there", x.count(32), 3);
        due.item("it was not taken", x, 0, 1, 1L);
        x.unit(7, true);
        due.is("it stands", x.take(0), 2);
        x.put(0, 3, 3L, 7);
        x.unit(7, false);
        due.is("it went", x.take(0), -4);
    }

    public static void main(String[] args) {
        inOrder();
        pending();
        MonitorQueues x = new MonitorQueues(100);
        x.put(0, 0, 1L, 0);
        x.put(1, 1, 1L, 0);
        x.put(2, 1, 1L, 1);
        due.is("temporary", x.take(0), -3);
        due.is("temporary and protected", x.take(1), -3);
        due.is("temporary and locked", x.take(2), -3);
        due.is("never used", x.take(3), -4);
        int[] queues = {-1, 32, Integer.MIN_VALUE, Integer.MAX_VALUE};
        for (int queue : queues) {
            due.is("queue " + queue, x.take(queue), -2);
        }
        due.is("nothing went", x.count(64), 3);
        due.finish();
    }
}
