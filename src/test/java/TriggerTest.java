/** Promise 6: trigger. When its tasks begin stands in the document's terms: TriggerTermsTest. */
public final class TriggerTest {
    private static final Due due = new Due();

    private static void putTwo(MonitorQueues x, int queue) {
        x.put(queue, 2, 1L, 0);
        x.put(queue, 2, 2L, 0);
    }

    private static void transientOrNoKind() {
        due.sentence("Promise 6", "A queue that is transient, or has no kind, gets a trigger");
        MonitorQueues x = new MonitorQueues(100);
        x.put(2, 2, 1L, 0);
        x.put(3, 3, 1L, 0);
        x.put(4, 3, 1L, 1);
        due.is("transient", x.trigger(2, 2, 5), 1);
        due.is("transient and protected", x.trigger(3, 2, 6), 1);
        due.is("transient and locked", x.trigger(4, 2, 7), 1);
        due.is("no kind", x.trigger(0, 1, 8), 1);
        due.is("no kind, the last queue", x.trigger(31, 1, 9), 1);
        due.is("no kind by it", x.count(63), -1);
        due.is("fewer items", x.count(65), 0);
        x.put(2, 2, 1L, 0);
        x.put(3, 3, 1L, 0);
        x.put(31, 3, 1L, 0);
        due.is("of the transient one", x.started(1), 5);
        due.is("of the protected one", x.started(2), 6);
        due.is("of the last one", x.started(3), 9);
    }

    private static void noKindAnyMore() {
        due.sentence("Promise 6", "A queue that is transient, or has no kind, gets a trigger");
        MonitorQueues x = new MonitorQueues(100);
        x.put(0, 0, 1L, 0);
        x.put(1, 1, 1L, 4);
        x.put(2, 2, 1L, 0);
        x.tick(1L);
        x.age(1L);
        x.unit(4, false);
        x.take(2);
        due.is("aged", x.trigger(0, 1, 5), 1);
        due.is("gone with a unit", x.trigger(1, 1, 5), 1);
        due.is("all taken", x.trigger(2, 1, 5), 1);
    }

    private static void itIsReady() {
        due.sentence("Promise 6", "(it is ready; the task that goes is that of the one before no more)");
        MonitorQueues x = new MonitorQueues(100);
        putTwo(x, 4);
        x.trigger(4, 3, 7);
        due.is("fewer items", x.count(65), 0);
        x.trigger(4, 2, 8);
        due.is("enough: behind the call", x.count(65), 1);
        due.is("its code", x.started(1), 8);
        x.trigger(4, 2, 8);
        due.is("the same again is ready again", x.count(65), 2);
    }

    private static void theTaskIsNoMoreItsOwn() {
        due.sentence("Promise 6", "(it is ready; the task that goes is that of the one before no more)");
        MonitorQueues x = new MonitorQueues(100);
        x.trigger(4, 2, 7);
        putTwo(x, 4);
        x.trigger(4, 1, 9);
        due.is("it does not wait for that task", x.count(65), 2);
        due.is("both go", x.count(66), 2);
        due.is("its code", x.started(2), 9);
        due.is("nothing was taken, but none begins again for it", x.end(1), 0);
        due.is("nothing began", x.count(65), 2);
        due.is("one begins again for its own", x.end(2), 3);
        due.is("with its code", x.started(3), 9);
    }

    private static void smallestCount() {
        due.sentence("Promise 6", "of a count from 1 on and a code");
        MonitorQueues x = new MonitorQueues(100);
        due.is("count 1", x.trigger(4, 1, Integer.MIN_VALUE), 1);
        due.is("no item", x.count(65), 0);
        x.put(4, 2, 1L, 0);
        due.is("one item", x.count(65), 1);
        due.is("its code", x.started(1), Integer.MIN_VALUE);
    }

    private static void largeCounts() {
        due.sentence("Promise 6", "of a count from 1 on and a code");
        MonitorQueues x = new MonitorQueues(4096);
        due.is("count 500", x.trigger(4, 500, Integer.MAX_VALUE), 1);
        due.is("count 4096", x.trigger(5, 4096, 0), 1);
        for (int i = 1; i <= 499; i++) {
            x.put(4, 2, i, 0);
        }
        due.is("499 of 500", x.count(65), 0);
        x.put(4, 2, 500L, 0);
        due.is("500 of 500", x.count(65), 1);
        due.is("its code", x.started(1), Integer.MAX_VALUE);
    }

    private static void countZero() {
        due.sentence("Promise 6", "by count 0 it has none: 1");
        MonitorQueues x = new MonitorQueues(100);
        due.is("where none was", x.trigger(30, 0, 5), 1);
        x.put(30, 0, 1L, 0);
        due.is("so it can be temporary", x.count(62), 0);
        x.trigger(4, 2, 9);
        putTwo(x, 4);
        due.is("where one was", x.trigger(4, 0, 9), 1);
        due.is("the task goes on", x.count(66), 1);
        due.is("none begins again", x.end(1), 0);
        putTwo(x, 4);
        due.is("nothing begins any more", x.count(65), 1);
        for (int i = 0; i < 4; i++) {
            x.take(4);
        }
        due.is("temporary without it", x.put(4, 0, 1L, 0), 1);
    }

    private static void noSuchQueue() {
        due.sentence("Promise 6", "-2 when queue is not so");
        MonitorQueues x = new MonitorQueues(100);
        x.put(0, 2, 1L, 0);
        x.put(31, 2, 1L, 0);
        int[] before = Due.counts(x);
        for (int queue : Due.outside(0, 31)) {
            due.is("queue " + queue, x.trigger(queue, 1, 5), -2);
            due.is("queue " + queue + " of none", x.trigger(queue, 0, 5), -2);
        }
        due.unchanged("wrong queues", x, before);
    }

    private static void noSuchCount() {
        due.sentence("Promise 6", "or count is not 0 .. 4096");
        MonitorQueues x = new MonitorQueues(100);
        x.put(0, 0, 1L, 0);
        x.trigger(2, 2, 7);
        for (int count : Due.outside(0, 4096)) {
            due.is("count " + count, x.trigger(2, count, 5), -2);
            due.is("count " + count + " of no kind", x.trigger(3, count, 5), -2);
            due.is("count " + count + " of a temporary one", x.trigger(0, count, 5), -2);
        }
        putTwo(x, 2);
        due.is("the trigger that was there is there", x.started(1), 7);
        due.is("none came where none was", x.put(3, 0, 1L, 0), 1);
        due.is("count 0", x.trigger(2, 0, 5), 1);
        due.is("count 4096", x.trigger(2, 4096, 5), 1);
    }

    private static void refusedChangesNothing() {
        due.sentence("Promise 6", "or count is not 0 .. 4096");
        MonitorQueues x = new MonitorQueues(100);
        x.trigger(2, 2, 7);
        putTwo(x, 2);
        x.trigger(2, -1, 8);
        x.trigger(2, 4097, 8);
        due.is("it is not ready by that", x.count(65), 1);
        due.is("its task is its own still", x.end(1), 2);
    }

    private static void temporaryOnes() {
        due.sentence("Promise 6", "-3 when it is temporary");
        MonitorQueues x = new MonitorQueues(100);
        x.put(0, 0, 1L, 0);
        x.put(1, 1, 1L, 0);
        x.put(2, 1, 1L, 3);
        int[] before = Due.counts(x);
        for (int queue = 0; queue < 3; queue++) {
            due.is("count 0 of queue " + queue, x.trigger(queue, 0, 5), -3);
            due.is("count 1 of queue " + queue, x.trigger(queue, 1, 5), -3);
            due.is("count 4096 of queue " + queue, x.trigger(queue, 4096, 5), -3);
        }
        due.unchanged("trigger of temporary ones", x, before);
        x.tick(1L);
        x.age(1L);
        due.is("no trigger came", x.put(0, 0, 1L, 0), 1);
    }

    private static void keptWhileEmpty() {
        due.sentence("Promise 6", "(A queue keeps its trigger while it is empty, and can be transient only.)");
        MonitorQueues x = new MonitorQueues(100);
        x.trigger(4, 2, 5);
        putTwo(x, 4);
        x.take(4);
        x.take(4);
        x.end(1);
        due.is("no kind", x.count(36), -1);
        x.put(4, 3, 1L, 0);
        x.put(4, 3, 1L, 0);
        due.is("its trigger is there", x.count(65), 2);
        due.is("its code", x.started(2), 5);
        MonitorQueues gone = new MonitorQueues(100);
        gone.trigger(4, 1, 6);
        gone.put(4, 3, 1L, 2);
        gone.unit(2, false);
        gone.put(4, 2, 1L, 0);
        due.is("kept when a unit's items went", gone.started(1), 6);
    }

    private static void transientOnly() {
        due.sentence("Promise 6", "(A queue keeps its trigger while it is empty, and can be transient only.)");
        MonitorQueues x = new MonitorQueues(100);
        x.trigger(4, 2, 5);
        due.is("temporary", x.put(4, 0, 1L, 0), -3);
        due.is("temporary and protected", x.put(4, 1, 1L, 1), -3);
        due.is("still no kind", x.count(36), -1);
        due.is("transient", x.put(4, 2, 1L, 0), 1);
        x.take(4);
        due.is("temporary, when it is empty again", x.put(4, 0, 1L, 0), -3);
        due.is("transient and protected", x.put(4, 3, 1L, 0), 2);
        due.is("another queue", x.put(5, 0, 1L, 0), 1);
    }

    public static void main(String[] args) {
        transientOrNoKind();
        noKindAnyMore();
        itIsReady();
        theTaskIsNoMoreItsOwn();
        smallestCount();
        largeCounts();
        countZero();
        noSuchQueue();
        noSuchCount();
        refusedChangesNothing();
        temporaryOnes();
        keptWhileEmpty();
        transientOnly();
        due.finish();
    }
}
