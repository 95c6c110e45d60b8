/** Promise 4: next. */
public final class NextTest {
    private static final Due due = new Due();

    private static void places() {
        MonitorQueues x = new MonitorQueues(100);
        for (int i = 0; i < 3; i++) {
            x.put(31, 0, i, 0);
            x.put(30, 1, i, 0);
        }
        due.is("reader 7", x.next(31, 7), 1);
        due.is("reader 7", x.next(31, 7), 2);
        due.is("reader 0 has its own place", x.next(31, 0), 1);
        due.is("another queue has its own places", x.next(30, 7), 1);
        due.is("reader 7", x.next(31, 7), 3);
        due.is("behind the last", x.next(31, 7), -4);
        due.is("behind the last, again", x.next(31, 7), -4);
        x.put(31, 0, 9L, 0);
        due.is("one more", x.next(31, 7), 4);
        due.item("get moves nobody", x, 31, 1, 0L);
        due.is("behind the last", x.next(31, 7), -4);
        due.is("reader 0", x.next(31, 0), 2);
    }

    private static void empty() {
        MonitorQueues x = new MonitorQueues(100);
        due.is("never used", x.next(0, 0), -4);
        x.put(0, 0, 1L, 0);
        x.put(0, 0, 2L, 0);
        x.next(0, 3);
        x.tick(1L);
        x.age(1L);
        due.is("aged", x.next(0, 3), -4);
        x.put(0, 1, 3L, 6);
        due.is("from the first again; pending ones too", x.next(0, 3), 1);
        x.unit(6, false);
        due.is("empty by a unit", x.next(0, 3), -4);
        x.put(0, 0, 4L, 0);
        due.is("from the first once more", x.next(0, 3), 1);
        x.trigger(5, 1, 1);
        due.is("empty, with a trigger: no kind", x.next(5, 3), -4);
    }

    private static void placeOutlivesItems() {
        MonitorQueues x = new MonitorQueues(100);
        x.put(0, 1, 1L, 0);
        x.put(0, 1, 2L, 8);
        x.next(0, 2);
        due.is("a pending one", x.next(0, 2), 2);
        x.unit(8, false);
        due.is("its place is behind the last", x.next(0, 2), -4);
        x.put(0, 1, 3L, 0);
        due.is("its place is the last", x.next(0, 2), -4);
        x.put(0, 1, 4L, 0);
        due.is("on from its place", x.next(0, 2), 3);
    }

    public static void main(String[] args) {
        places();
        empty();
        placeOutlivesItems();
        MonitorQueues x = new MonitorQueues(100);
        x.put(0, 2, 1L, 0);
        x.put(1, 3, 1L, 0);
        due.is("transient", x.next(0, 0), -3);
        due.is("transient and protected", x.next(1, 0), -3);
        int[] queues = {-1, 32, Integer.MIN_VALUE, Integer.MAX_VALUE};
        int[] readers = {-1, 8, Integer.MIN_VALUE, Integer.MAX_VALUE};
        for (int i = 0; i < 4; i++) {
            due.is("queue " + queues[i], x.next(queues[i], 0), -2);
            due.is("reader " + readers[i], x.next(0, readers[i]), -2);
        }
        due.finish();
    }
}
