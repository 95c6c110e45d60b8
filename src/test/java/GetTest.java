/** Promise 3: get. */
public final class GetTest {
    private static final Due due = new Due();

    private static void temporary() {
        MonitorQueues x = new MonitorQueues(100);
        x.put(0, 0, Long.MIN_VALUE, 0);
        x.put(0, 0, Long.MAX_VALUE, 0);
        x.put(1, 1, 7L, 4);
        due.item("first", x, 0, 1, Long.MIN_VALUE);
        due.item("last", x, 0, 2, Long.MAX_VALUE);
        due.item("first again", x, 0, 1, Long.MIN_VALUE);
        due.item("pending", x, 1, 1, 7L);
        int[] items = {0, 3, -1, Integer.MIN_VALUE, Integer.MAX_VALUE};
        for (int item : items) {
            due.noItem("item " + item, x, 0, item);
        }
        x.unit(4, false);
        due.noItem("gone with its unit", x, 1, 1);
        x.tick(1L);
        x.age(1L);
        due.noItem("aged", x, 0, 1);
    }

    private static void transientOne() {
        MonitorQueues x = new MonitorQueues(100);
        x.put(9, 2, 11L, 0);
        x.put(9, 2, 12L, 0);
        x.put(9, 2, 13L, 0);
        due.noItem("nothing taken: 0", x, 9, 0);
        due.noItem("nothing taken: 1", x, 9, 1);
        x.take(9);
        due.item("taken latest", x, 9, 1, 11L);
        due.item("taken latest, again", x, 9, 1, 11L);
        due.noItem("not yet taken", x, 9, 2);
        due.noItem("0", x, 9, 0);
        x.take(9);
        due.item("the second", x, 9, 2, 12L);
        due.noItem("not the latest any more", x, 9, 1);
        x.take(9);
        due.item("the last one, that left the queue empty", x, 9, 3, 13L);
        due.is("a take of nothing", x.take(9), -4);
        due.item("is no take", x, 9, 3, 13L);
        x.put(9, 0, 99L, 0);
        due.noItem("the queue is temporary now", x, 9, 3);
        due.item("and has its own items", x, 9, 1, 99L);
    }

    public static void main(String[] args) {
        temporary();
        transientOne();
        MonitorQueues x = new MonitorQueues(100);
        int[] queues = {-1, 32, Integer.MIN_VALUE, Integer.MAX_VALUE};
        for (int queue : queues) {
            due.noItem("queue " + queue, x, queue, 1);
            due.noItem("queue " + queue, x, queue, 0);
        }
        due.noItem("an empty queue: 0", x, 31, 0);
        due.noItem("an empty queue: 1", x, 31, 1);
        due.finish();
    }
}
