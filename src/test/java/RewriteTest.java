/** Promise 9: rewrite. */
public final class RewriteTest {
    public static void main(String[] args) {
        Due due = new Due();
        MonitorQueues x = new MonitorQueues(100);
        x.put(0, 0, 1L, 0);
        x.put(0, 0, 2L, 0);
        x.put(31, 1, 3L, 0);
        x.put(31, 1, 4L, 5);
        x.put(2, 2, 5L, 0);
        x.put(3, 3, 6L, 0);
        due.is("first", x.rewrite(0, 1, Long.MIN_VALUE), 1);
        due.item("first", x, 0, 1, Long.MIN_VALUE);
        due.item("the other one", x, 0, 2, 2L);
        due.is("last", x.rewrite(0, 2, Long.MAX_VALUE), 1);
        due.item("last", x, 0, 2, Long.MAX_VALUE);
        due.is("one of a locked queue", x.rewrite(31, 1, 30L), 1);
        due.is("pending", x.rewrite(31, 2, 40L), 1);
        due.item("pending", x, 31, 2, 40L);
        x.unit(5, false);
        due.item("what was rewritten stays so", x, 31, 1, 30L);
        due.is("gone", x.rewrite(31, 2, 1L), -4);
        int[] items = {0, 3, -1, Integer.MIN_VALUE, Integer.MAX_VALUE};
        for (int item : items) {
            due.is("item " + item, x.rewrite(0, item, 1L), -4);
        }
        due.is("never used", x.rewrite(9, 1, 1L), -4);
        due.is("transient", x.rewrite(2, 1, 1L), -3);
        due.is("transient, no such item", x.rewrite(2, 9, 1L), -3);
        due.is("transient and protected", x.rewrite(3, 1, 1L), -3);
        int[] queues = {-1, 32, Integer.MIN_VALUE, Integer.MAX_VALUE};
        for (int queue : queues) {
            due.is("queue " + queue, x.rewrite(queue, 1, 1L), -2);
        }
        due.is("nothing came", x.count(64), 5);
        x.take(2);
        due.item("the transient one is as it was", x, 2, 1, 5L);
        due.finish();
    }
}
