/** Promise 2: put. */
public final class PutTest {
    private static final Due due = new Due();

    private static void numbers() {
        for (int kind = 0; kind < 4; kind++) {
            MonitorQueues x = new MonitorQueues(100);
            due.is("first of kind " + kind, x.put(31, kind, 5L, 0), 1);
            due.is("second of kind " + kind, x.put(31, kind, 6L, 0), 2);
            due.is("another queue of kind " + kind, x.put(0, kind, 6L, 9), 1);
            due.is("kind " + kind, x.count(63), kind);
            for (int other = 0; other < 4; other++) {
                if (other != kind) {
                    due.is("kind " + other + " into " + kind, x.put(31, other, 7L, 0), -3);
                }
            }
            due.is("items of kind " + kind, x.count(31), 2);
        }
    }

    private static void numbersGoOn() {
        MonitorQueues x = new MonitorQueues(100);
        x.put(4, 2, 1L, 0);
        x.put(4, 2, 2L, 0);
        x.take(4);
        due.is("behind a taken one", x.put(4, 2, 3L, 0), 3);
        x.take(4);
        x.take(4);
        due.is("empty: no kind", x.count(36), -1);
        due.is("another transient kind goes on", x.put(4, 3, 4L, 0), 4);
        x.take(4);
        due.is("temporary begins at 1", x.put(4, 0, 5L, 0), 1);
        due.is("temporary goes on at 2", x.put(4, 0, 5L, 0), 2);
        x.tick(1L);
        due.is("aged", x.age(1L), 1);
        due.is("transient again goes on", x.put(4, 2, 6L, 0), 5);
        due.is("another queue has numbers of its own", x.put(5, 2, 6L, 0), 1);
    }

    private static void numbersOfAUnit() {
        MonitorQueues x = new MonitorQueues(100);
        x.put(4, 3, 1L, 0);
        due.is("pending 2", x.put(4, 3, 2L, 1), 2);
        due.is("pending 3", x.put(4, 3, 3L, 1), 3);
        x.unit(1, false);
        due.is("2 again", x.put(4, 3, 4L, 0), 2);
        x.take(4);
        x.take(4);
        due.is("pending first", x.put(4, 3, 5L, 2), 3);
        x.unit(2, false);
        due.is("3 again in a queue that became empty", x.put(4, 2, 6L, 0), 3);
        due.is("a first item ever that goes", x.put(6, 3, 6L, 2), 1);
        x.unit(2, false);
        due.is("1 again", x.put(6, 3, 6L, 2), 1);
        x.unit(2, true);
        due.is("one that stands keeps its number", x.put(6, 3, 6L, 0), 2);
    }

    private static void wrongOnes() {
        MonitorQueues x = new MonitorQueues(1);
        x.put(0, 1, 1L, 3);
        int[] queues = {-1, 32, Integer.MIN_VALUE, Integer.MAX_VALUE};
        int[] kinds = {-1, 4, Integer.MIN_VALUE, Integer.MAX_VALUE};
        int[] units = {-1, 10, Integer.MIN_VALUE, Integer.MAX_VALUE};
        for (int i = 0; i < 4; i++) {
            due.is("queue " + queues[i], x.put(queues[i], 0, 1L, 0), -2);
            due.is("kind " + kinds[i], x.put(0, kinds[i], 1L, 0), -2);
            due.is("unit " + units[i], x.put(0, 0, 1L, units[i]), -2);
        }
        due.is("another kind before a lock and no room", x.put(0, 3, 1L, 4), -3);
        due.is("a lock before no room", x.put(0, 1, 1L, 4), -5);
        due.is("no room", x.put(0, 1, 1L, 3), -1);
        due.is("no room for another queue", x.put(1, 0, 1L, 0), -1);
        due.is("what had no room gives no kind", x.count(33), -1);
        due.is("items", x.count(64), 1);
    }

    private static void locks() {
        for (int kind = 1; kind < 4; kind += 2) {
            MonitorQueues x = new MonitorQueues(100);
            due.is("by none", x.put(2, kind, 1L, 0), 1);
            due.is("none locks nothing", x.put(2, kind, 1L, 5), 2);
            due.is("the same unit", x.put(2, kind, 1L, 5), 3);
            due.is("another unit", x.put(2, kind, 1L, 6), -5);
            due.is("no unit", x.put(2, kind, 1L, 0), -5);
            due.is("another queue is not locked", x.put(3, kind, 1L, 6), 1);
            x.unit(6, true);
            due.is("another unit's end opens nothing", x.put(2, kind, 1L, 6), -5);
            x.unit(5, true);
            due.is("open", x.put(2, kind, 1L, 6), 4);
            x.unit(6, false);
            due.is("open again", x.put(2, kind, 1L, 0), 4);
        }
        for (int kind = 0; kind < 4; kind += 2) {
            MonitorQueues x = new MonitorQueues(100);
            due.is("not protected: unit 5", x.put(2, kind, 1L, 5), 1);
            due.is("not protected: unit 6", x.put(2, kind, 1L, 6), 2);
            due.is("not protected: none", x.put(2, kind, 1L, 0), 3);
            due.is("not protected: nothing pending", x.unit(5, false), 0);
            due.is("not protected: all stand", x.count(2), 3);
        }
    }

    private static void room() {
        MonitorQueues x = new MonitorQueues(3);
        x.put(0, 0, 1L, 0);
        x.put(1, 2, 1L, 0);
        x.put(2, 3, 1L, 1);
        due.is("full", x.put(1, 2, 1L, 0), -1);
        x.take(1);
        due.is("room by take; the number was not used", x.put(1, 2, 1L, 0), 2);
        due.is("full again", x.put(1, 2, 1L, 0), -1);
        x.unit(1, false);
        due.is("room by a unit", x.put(1, 2, 1L, 0), 3);
        x.tick(1L);
        x.age(1L);
        due.is("room by age", x.put(1, 2, 1L, 0), 4);
        due.is("full at last", x.put(0, 0, 1L, 0), -1);
    }

    public static void main(String[] args) {
        numbers();
        numbersGoOn();
        numbersOfAUnit();
        wrongOnes();
        locks();
        room();
        due.finish();
    }
}
