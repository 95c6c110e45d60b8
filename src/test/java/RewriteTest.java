/** Promise 9: rewrite. */
public final class RewriteTest {
    private static final Due due = new Due();

    private static void anotherValue() {
        due.sentence("Promise 9", "A temporary queue's item gets another value (at once, whatever unit): 1.");
        MonitorQueues x = new MonitorQueues(2);
        x.put(0, 0, 1L, 0);
        x.put(0, 0, 2L, 0);
        due.is("the first", x.rewrite(0, 1, Long.MIN_VALUE), 1);
        due.item("the first", x, 0, 1, Long.MIN_VALUE);
        due.item("the other one", x, 0, 2, 2L);
        due.is("the last", x.rewrite(0, 2, Long.MAX_VALUE), 1);
        due.item("the last", x, 0, 2, Long.MAX_VALUE);
        due.is("the same value", x.rewrite(0, 2, Long.MAX_VALUE), 1);
        due.is("nothing came", x.count(0), 2);
    }

    private static void whateverUnit() {
        due.sentence("Promise 9", "A temporary queue's item gets another value (at once, whatever unit): 1.");
        MonitorQueues x = new MonitorQueues(100);
        x.put(31, 1, 3L, 0);
        x.put(31, 1, 4L, 5);
        due.is("one of a locked queue", x.rewrite(31, 1, 30L), 1);
        due.is("a pending one", x.rewrite(31, 2, 40L), 1);
        due.item("at once", x, 31, 2, 40L);
        due.is("one is pending still", x.unit(5, false), 1);
        due.item("the value stays when the unit's items go", x, 31, 1, 30L);
        x.put(31, 1, 4L, 5);
        x.rewrite(31, 2, 50L);
        x.unit(5, true);
        due.item("the value stays when they stand", x, 31, 2, 50L);
    }

    private static void noSuchQueue() {
        due.sentence("Promise 9", "-2 when there is no such queue");
        MonitorQueues x = new MonitorQueues(100);
        x.put(0, 0, 1L, 0);
        x.put(31, 0, 1L, 0);
        for (int queue : Due.outside(0, 31)) {
            due.is("queue " + queue, x.rewrite(queue, 1, 9L), -2);
            due.is("queue " + queue + ", no item", x.rewrite(queue, 0, 9L), -2);
        }
        due.item("queue 0 is as it was", x, 0, 1, 1L);
        due.item("queue 31 is as it was", x, 31, 1, 1L);
        due.is("queue 0", x.rewrite(0, 1, 9L), 1);
        due.is("queue 31", x.rewrite(31, 1, 9L), 1);
    }

    private static void transientOnes() {
        due.sentence("Promise 9", "-3 when it is transient");
        for (int kind = 2; kind < 4; kind++) {
            MonitorQueues x = new MonitorQueues(100);
            x.put(2, kind, 5L, 0);
            x.put(2, kind, 6L, 1);
            due.is("its first", x.rewrite(2, 1, 9L), -3);
            due.is("its last", x.rewrite(2, 2, 9L), -3);
            due.is("no item of it", x.rewrite(2, 3, 9L), -3);
            due.is("no item ever", x.rewrite(2, 0, 9L), -3);
            x.take(2);
            due.item("it is as it was", x, 2, 1, 5L);
            due.is("the one taken latest", x.rewrite(2, 1, 9L), -3);
            due.item("it is as it was", x, 2, 1, 5L);
        }
    }

    private static void noSuchItem() {
        due.sentence("Promise 9", "-4 when there is no such item");
        MonitorQueues x = new MonitorQueues(100);
        x.put(0, 0, 1L, 0);
        x.put(0, 0, 2L, 0);
        int[] before = Due.counts(x);
        for (int item : Due.outside(1, 2)) {
            due.is("item " + item, x.rewrite(0, item, 9L), -4);
        }
        due.unchanged("rewrite of no item", x, before);
        due.item("the first is as it was", x, 0, 1, 1L);
        due.item("the last is as it was", x, 0, 2, 2L);
    }

    private static void emptyOnes() {
        due.sentence("Promise 9", "-4 when there is no such item");
        MonitorQueues x = new MonitorQueues(100);
        due.is("new", x.rewrite(9, 1, 1L), -4);
        due.is("new, 0", x.rewrite(9, 0, 1L), -4);
        due.is("it has no kind still", x.count(41), -1);
        x.put(0, 1, 1L, 5);
        x.put(1, 0, 1L, 0);
        x.put(2, 2, 1L, 0);
        x.unit(5, false);
        x.tick(1L);
        x.age(1L);
        x.take(2);
        due.is("gone with its unit", x.rewrite(0, 1, 1L), -4);
        due.is("aged", x.rewrite(1, 1, 1L), -4);
        due.is("taken, and the queue has no kind", x.rewrite(2, 1, 1L), -4);
        due.item("what was taken is as it was", x, 2, 1, 1L);
    }

    public static void main(String[] args) {
        anotherValue();
        whateverUnit();
        noSuchQueue();
        transientOnes();
        noSuchItem();
        emptyOnes();
        due.finish();
    }
}
