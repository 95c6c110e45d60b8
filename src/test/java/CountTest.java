/** Promise 15: count. */
public final class CountTest {
    private static final Due due = new Due();

    private static MonitorQueues filled() {
        MonitorQueues x = new MonitorQueues(500);
        for (int q = 0; q < 32; q++) {
            for (int i = 0; i <= q % 3; i++) {
                x.put(q, q % 4, 1L, 0);
            }
        }
        return x;
    }

    private static void itemsOfAQueue() {
        due.sentence("Promise 15", "what = 0 .. 31 items of a queue");
        MonitorQueues x = filled();
        for (int q = 0; q < 32; q++) {
            due.is("items of " + q, x.count(q), q % 3 + 1);
        }
        x.put(3, 3, 1L, 2);
        due.is("pending ones are among them", x.count(3), 2);
        x.take(3);
        due.is("a taken one is not", x.count(3), 1);
        x.unit(2, false);
        due.is("those that went are not", x.count(3), 0);
        due.is("of an empty queue", new MonitorQueues(5).count(0), 0);
    }

    private static void kindOfAQueue() {
        due.sentence("Promise 15", "32 .. 63 its kind (NONE without)");
        MonitorQueues x = filled();
        MonitorQueues empty = new MonitorQueues(5);
        for (int q = 0; q < 32; q++) {
            due.is("kind of " + q, x.count(32 + q), q % 4);
            due.is("without, " + q, empty.count(32 + q), -1);
        }
        empty.trigger(0, 1, 1);
        due.is("a trigger gives no kind", empty.count(32), -1);
        x.take(3);
        due.is("all taken", x.count(35), -1);
        x.age(5L);
        due.is("aged", x.count(32), -1);
    }

    private static void allItems() {
        due.sentence("Promise 15", "64 all items, 65 tasks that began, 66 tasks that go, 67 delays that wait");
        MonitorQueues x = new MonitorQueues(500);
        due.is("none", x.count(64), 0);
        x.put(0, 0, 1L, 0);
        x.put(31, 2, 1L, 0);
        x.put(31, 2, 1L, 0);
        due.is("of two queues", x.count(64), 3);
        x.put(3, 3, 1L, 2);
        due.is("pending ones are among all", x.count(64), 4);
        x.take(31);
        due.is("a taken one is not", x.count(64), 3);
        x.unit(2, false);
        due.is("one that went is not", x.count(64), 2);
        x.age(5L);
        due.is("an aged one is not", x.count(64), 1);
    }

    private static void tasksAndDelays() {
        due.sentence("Promise 15", "64 all items, 65 tasks that began, 66 tasks that go, 67 delays that wait");
        MonitorQueues x = new MonitorQueues(500);
        for (int what = 65; what < 68; what++) {
            due.is("none: " + what, x.count(what), 0);
        }
        x.delay(1, 5L);
        x.delay(2, 0L);
        x.delay(3, 0L);
        x.end(1);
        due.is("tasks that began", x.count(65), 2);
        due.is("tasks that go", x.count(66), 1);
        due.is("delays that wait", x.count(67), 1);
        due.is("the same again", x.count(67), 1);
        x.tick(5L);
        due.is("three began", x.count(65), 3);
        due.is("two go", x.count(66), 2);
        due.is("none waits", x.count(67), 0);
    }

    private static void others() {
        due.sentence("Promise 15", "-2 for others");
        MonitorQueues x = filled();
        int[] others = {-1, 68, 69, 96, -32, -31, Integer.MIN_VALUE, Integer.MIN_VALUE + 32, Integer.MAX_VALUE};
        for (int what : others) {
            due.is("count(" + what + ")", x.count(what), -2);
        }
        for (int what = 0; what < 68; what++) {
            due.isTrue("count(" + what + ") is none of them", x.count(what) != -2);
        }
    }

    public static void main(String[] args) {
        itemsOfAQueue();
        kindOfAQueue();
        allItems();
        tasksAndDelays();
        others();
        due.finish();
    }
}
