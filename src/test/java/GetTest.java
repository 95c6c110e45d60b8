/** Promise 3: get. */
public final class GetTest {
    private static final Due due = new Due();

    private static void temporary() {
        due.sentence("Promise 3", "A temporary queue's item");
        MonitorQueues x = new MonitorQueues(100);
        x.put(0, 0, Long.MIN_VALUE, 0);
        x.put(0, 0, 0L, 0);
        x.put(0, 0, Long.MAX_VALUE, 0);
        x.put(31, 1, 6L, 0);
        x.put(31, 1, 7L, 4);
        due.item("the last", x, 0, 3, Long.MAX_VALUE);
        due.item("the first", x, 0, 1, Long.MIN_VALUE);
        due.item("the first again", x, 0, 1, Long.MIN_VALUE);
        due.item("one between", x, 0, 2, 0L);
        due.item("one of a locked queue", x, 31, 1, 6L);
        due.item("a pending one", x, 31, 2, 7L);
        due.is("nothing went", x.count(64), 5);
    }

    private static void takenLatest() {
        due.sentence("Promise 3", "or the item that was taken latest from a transient one");
        for (int kind = 2; kind < 4; kind++) {
            MonitorQueues x = new MonitorQueues(100);
            for (int i = 1; i <= 3; i++) {
                x.put(9, kind, 10L * i, 0);
            }
            x.take(9);
            due.item("the first", x, 9, 1, 10L);
            due.item("the first, again", x, 9, 1, 10L);
            x.put(9, kind, 40L, 0);
            due.item("a put is no take", x, 9, 1, 10L);
            x.take(9);
            due.item("the second", x, 9, 2, 20L);
            due.noItem("the first is not the latest any more", x, 9, 1);
        }
    }

    private static void takenLatestOfAll() {
        due.sentence("Promise 3", "or the item that was taken latest from a transient one");
        MonitorQueues x = new MonitorQueues(100);
        x.put(9, 2, 10L, 0);
        x.put(8, 3, 20L, 0);
        x.take(9);
        due.item("the one that left the queue empty", x, 9, 1, 10L);
        x.take(8);
        due.item("each queue has its own", x, 9, 1, 10L);
        due.item("each queue has its own", x, 8, 1, 20L);
        due.is("empty", x.take(9), -4);
        due.item("a refused take is no take", x, 9, 1, 10L);
        x.put(9, 3, 30L, 5);
        due.is("pending", x.take(9), -5);
        due.item("a refused take is no take", x, 9, 1, 10L);
        x.unit(5, false);
        due.item("a unit's end is no take", x, 9, 1, 10L);
    }

    private static void noSuchQueue() {
        due.sentence("Promise 3", "NoSuchElementException when it is no such.");
        MonitorQueues x = new MonitorQueues(100);
        x.put(0, 0, 1L, 0);
        x.put(31, 0, 1L, 0);
        for (int queue : Due.outside(0, 31)) {
            due.noItem("queue " + queue + ", 1", x, queue, 1);
            due.noItem("queue " + queue + ", 0", x, queue, 0);
        }
    }

    private static void noSuchItem() {
        due.sentence("Promise 3", "NoSuchElementException when it is no such.");
        MonitorQueues x = new MonitorQueues(100);
        x.put(0, 0, 1L, 0);
        x.put(0, 0, 2L, 0);
        for (int item : Due.outside(1, 2)) {
            due.noItem("item " + item, x, 0, item);
        }
        due.is("nothing came", x.count(0), 2);
    }

    private static void nothingThere() {
        due.sentence("Promise 3", "NoSuchElementException when it is no such.");
        MonitorQueues x = new MonitorQueues(100);
        for (int item = -1; item <= 1; item++) {
            due.noItem("a new queue: " + item, x, 31, item);
        }
        due.is("it has no kind still", x.count(63), -1);
        x.put(1, 1, 7L, 4);
        x.put(0, 0, 7L, 0);
        x.unit(4, false);
        due.noItem("gone with its unit", x, 1, 1);
        x.tick(1L);
        x.age(1L);
        due.noItem("aged", x, 0, 1);
    }

    private static void notTaken() {
        due.sentence("Promise 3", "NoSuchElementException when it is no such.");
        MonitorQueues x = new MonitorQueues(100);
        x.put(9, 2, 11L, 0);
        x.put(9, 2, 12L, 0);
        x.put(9, 2, 13L, 0);
        for (int item = -1; item <= 4; item++) {
            due.noItem("nothing taken: " + item, x, 9, item);
        }
        x.take(9);
        x.take(9);
        int[] others = {Integer.MIN_VALUE, -1, 0, 1, 3, 4, Integer.MAX_VALUE};
        for (int item : others) {
            due.noItem("2 was taken latest: " + item, x, 9, item);
        }
    }

    private static void temporaryNow() {
        due.sentence("Promise 3", "NoSuchElementException when it is no such.");
        MonitorQueues x = new MonitorQueues(100);
        for (int i = 1; i <= 3; i++) {
            x.put(9, 2, 10L * i, 0);
        }
        for (int i = 1; i <= 3; i++) {
            x.take(9);
        }
        x.put(9, 0, 99L, 0);
        due.noItem("taken, but the queue is temporary now", x, 9, 3);
        due.item("and has its own items", x, 9, 1, 99L);
    }

    public static void main(String[] args) {
        temporary();
        takenLatest();
        takenLatestOfAll();
        noSuchQueue();
        noSuchItem();
        nothingThere();
        notTaken();
        temporaryNow();
        due.finish();
    }
}
