/** Promises 7 and 8: started and end. */
public final class TaskTest {
    private static final Due due = new Due();

    private static void started() {
        MonitorQueues x = new MonitorQueues(100);
        due.is("none yet", x.started(1), 0);
        x.delay(Integer.MAX_VALUE, 0L);
        x.delay(Integer.MIN_VALUE, -1L);
        x.delay(3, 1L);
        due.is("the first", x.started(1), Integer.MAX_VALUE);
        due.is("the second", x.started(2), Integer.MIN_VALUE);
        int[] none = {0, 3, -1, Integer.MIN_VALUE, Integer.MAX_VALUE};
        for (int i : none) {
            due.is("started(" + i + ")", x.started(i), 0);
        }
        x.end(1);
        due.is("one that ended", x.started(1), Integer.MAX_VALUE);
    }

    private static void endOfOthers() {
        MonitorQueues x = new MonitorQueues(100);
        x.delay(5, 0L);
        int[] none = {0, 2, -1, Integer.MIN_VALUE, Integer.MAX_VALUE};
        for (int i : none) {
            due.is("end(" + i + ")", x.end(i), -4);
        }
        due.is("it goes", x.count(66), 1);
        due.is("a delay's task", x.end(1), 0);
        due.is("nothing goes", x.count(66), 0);
        due.is("again", x.end(1), -4);
        due.is("began", x.count(65), 1);
    }

    private static void beginsAgain() {
        MonitorQueues x = new MonitorQueues(100);
        x.trigger(9, 2, 66);
        x.put(9, 2, 1L, 0);
        x.put(9, 2, 1L, 0);
        due.is("nothing was taken", x.end(1), 2);
        due.is("its code", x.started(2), 66);
        due.is("one goes", x.count(66), 1);
        due.is("nothing was taken from the second on", x.end(2), 3);
        x.take(9);
        due.is("something was taken", x.end(3), 0);
        due.is("none goes", x.count(66), 0);
        x.put(9, 2, 1L, 0);
        due.is("what was taken counts from the beginning on", x.end(4), 5);
        x.take(9);
        x.take(9);
        x.put(9, 2, 1L, 0);
        due.is("taken, one item, fewer than the count", x.end(5), 0);
        due.is("began", x.count(65), 5);
    }

    private static void takenFromAnother() {
        MonitorQueues x = new MonitorQueues(100);
        x.trigger(9, 1, 66);
        x.trigger(10, 1, 67);
        x.put(9, 2, 1L, 0);
        x.put(10, 2, 1L, 0);
        x.take(10);
        due.is("taken from another queue", x.end(1), 3);
        due.is("that other queue's task", x.end(2), 0);
        x.put(12, 3, 1L, 0);
        x.delay(1, 0L);
        due.is("a task of no trigger", x.end(4), 0);
    }

    private static void pendingOnly() {
        MonitorQueues x = new MonitorQueues(100);
        x.trigger(9, 1, 66);
        x.put(9, 3, 1L, 0);
        x.put(9, 3, 1L, 2);
        due.is("one that stands", x.end(1), 2);
        x.take(9);
        due.is("taken, and pending ones alone", x.end(2), 0);
        due.is("a refused take", x.take(9), -5);
        x.unit(2, true);
        due.is("it stands: ready", x.count(65), 3);
        due.is("nothing taken from the third", x.end(3), 4);
    }

    public static void main(String[] args) {
        started();
        endOfOthers();
        beginsAgain();
        takenFromAnother();
        pendingOnly();
        due.finish();
    }
}
