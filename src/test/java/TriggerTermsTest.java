/** The document's terms of triggers, tasks, time and delays, on which promises 6 to 8 and 10 to 12 stand. */
public final class TriggerTermsTest {
    private static final Due due = new Due();
    private static final String READY = "It is READY at first, and when the queue's items (those not pending) are"
            + " fewer than the count.";
    private static final String BEGINS = "If it is ready, no task of it goes, and there are count items or more, a"
            + " TASK of its code begins, and it is not ready.";
    private static final String AGAIN = "When a task of it ends, from whose beginning on nothing was taken from the"
            + " queue, and there are items that are not pending: one of its code begins again, whether it is ready or"
            + " not.";

    private static void put(MonitorQueues x, int queue, int howMany) {
        for (int i = 0; i < howMany; i++) {
            x.put(queue, 3, 1L, 0);
        }
    }

    private static void oneForAQueue() {
        due.sentence("Terms", "TRIGGERS: a transient queue may have one: a count and a code.");
        MonitorQueues x = new MonitorQueues(100);
        put(x, 3, 5);
        due.is("none by itself", x.count(65), 0);
        x.trigger(4, 1, 50);
        x.trigger(4, 2, 60);
        put(x, 4, 1);
        due.is("the count of the later one", x.count(65), 0);
        put(x, 4, 1);
        due.is("one task", x.count(65), 1);
        due.is("the code of the later one", x.started(1), 60);
    }

    private static void readyAtFirst() {
        due.sentence("Terms", READY);
        MonitorQueues x = new MonitorQueues(100);
        put(x, 4, 2);
        x.trigger(4, 2, 55);
        due.is("it never saw fewer than the count", x.started(1), 55);
    }

    private static void readyByFewer() {
        due.sentence("Terms", READY);
        MonitorQueues x = new MonitorQueues(100);
        x.trigger(4, 3, 55);
        put(x, 4, 4);
        due.is("a task began", x.count(65), 1);
        x.take(4);
        x.end(1);
        due.is("as many as the count are not fewer", x.count(65), 1);
        put(x, 4, 1);
        due.is("so one more begins nothing", x.count(65), 1);
        x.take(4);
        x.take(4);
        due.is("fewer", x.count(65), 1);
        put(x, 4, 1);
        due.is("so it was ready", x.count(65), 2);
    }

    private static void readyByFewerThatStand() {
        due.sentence("Terms", READY);
        MonitorQueues x = new MonitorQueues(100);
        x.trigger(4, 1, 7);
        put(x, 4, 1);
        x.put(4, 3, 1L, 3);
        x.take(4);
        due.is("a pending one is left", x.count(4), 1);
        due.is("taken", x.end(1), 0);
        due.is("nothing begins for a pending one", x.count(65), 1);
        x.unit(3, true);
        due.is("it was ready, for none stood", x.count(65), 2);
    }

    private static void beginsAtTheCount() {
        due.sentence("Terms", BEGINS);
        MonitorQueues x = new MonitorQueues(100);
        x.trigger(4, 3, 55);
        put(x, 4, 2);
        due.is("one fewer", x.count(65), 0);
        put(x, 4, 1);
        due.is("the count", x.count(65), 1);
        due.is("its code", x.started(1), 55);
        put(x, 4, 5);
        due.is("more: it is not ready", x.count(65), 1);
    }

    private static void beginsBeyondTheCount() {
        due.sentence("Terms", BEGINS);
        MonitorQueues x = new MonitorQueues(100);
        x.trigger(4, 2, 55);
        for (int i = 0; i < 5; i++) {
            x.put(4, 3, 1L, 8);
        }
        due.is("pending ones are none", x.count(65), 0);
        x.unit(8, true);
        due.is("more than the count at once: one task", x.count(65), 1);
        due.is("it goes", x.count(66), 1);
    }

    private static void notReadyByBeginning() {
        due.sentence("Terms", BEGINS);
        MonitorQueues x = new MonitorQueues(100);
        x.trigger(4, 2, 55);
        put(x, 4, 3);
        x.take(4);
        due.is("taken, so none begins again", x.end(1), 0);
        due.is("none goes, and the count is there, but it is not ready", x.count(65), 1);
        put(x, 4, 1);
        due.is("nor by one more", x.count(65), 1);
    }

    private static void waitsForItsTask() {
        due.sentence("Terms", BEGINS);
        MonitorQueues x = new MonitorQueues(100);
        x.trigger(4, 2, 55);
        x.trigger(5, 1, 66);
        put(x, 4, 2);
        x.take(4);
        put(x, 4, 1);
        due.is("ready, but its task goes", x.count(65), 1);
        put(x, 5, 1);
        due.is("another trigger has tasks of its own", x.started(2), 66);
        x.end(1);
        due.is("none of it goes: behind the call", x.started(3), 55);
        x.put(4, 3, 1L, 0);
        due.is("it is not ready by that", x.count(65), 3);
    }

    private static void queueByQueue() {
        due.sentence("Terms", "That is looked at behind each call, queue by queue.");
        MonitorQueues x = new MonitorQueues(100);
        x.trigger(31, 1, 31);
        x.trigger(0, 1, 100);
        x.trigger(7, 1, 7);
        x.put(31, 3, 1L, 1);
        x.put(7, 3, 1L, 1);
        x.put(0, 3, 1L, 1);
        due.is("three stand", x.unit(1, true), 3);
        due.is("three began", x.count(65), 3);
        due.is("queue 0", x.started(1), 100);
        due.is("queue 7", x.started(2), 7);
        due.is("queue 31", x.started(3), 31);
    }

    private static void behindEachCall() {
        due.sentence("Terms", "That is looked at behind each call, queue by queue.");
        MonitorQueues x = new MonitorQueues(100);
        put(x, 4, 1);
        x.trigger(4, 1, 5);
        due.is("behind trigger", x.count(65), 1);
        x.trigger(5, 1, 6);
        put(x, 5, 1);
        due.is("behind put", x.count(65), 2);
        x.take(5);
        put(x, 5, 1);
        x.end(2);
        due.is("behind end", x.count(65), 3);
        x.take(5);
        x.end(3);
        x.put(5, 3, 1L, 9);
        x.unit(9, true);
        due.is("behind unit", x.count(65), 4);
    }

    private static void nothingTaken() {
        due.sentence("Terms", AGAIN);
        MonitorQueues x = new MonitorQueues(100);
        x.trigger(9, 2, 66);
        put(x, 9, 2);
        due.is("nothing was taken", x.end(1), 2);
        due.is("its code", x.started(2), 66);
        due.is("nothing was taken from that one's beginning on", x.end(2), 3);
        put(x, 9, 3);
        due.is("more came, nothing was taken", x.end(3), 4);
        due.is("one goes", x.count(66), 1);
    }

    private static void somethingTaken() {
        due.sentence("Terms", AGAIN);
        MonitorQueues x = new MonitorQueues(100);
        x.trigger(9, 2, 66);
        put(x, 9, 4);
        x.take(9);
        due.is("taken, and three are left", x.end(1), 0);
        due.is("nothing goes", x.count(66), 0);
        x.take(9);
        x.take(9);
        put(x, 9, 1);
        due.is("it was ready", x.count(65), 2);
        due.is("what was taken before its beginning does not count", x.end(2), 3);
        x.take(9);
        due.is("what is taken from the one that began again", x.end(3), 0);
    }

    private static void takenFromAnotherQueue() {
        due.sentence("Terms", AGAIN);
        MonitorQueues x = new MonitorQueues(100);
        x.trigger(9, 1, 66);
        x.trigger(10, 1, 67);
        put(x, 9, 1);
        put(x, 10, 1);
        x.take(10);
        due.is("taken from another queue", x.end(1), 3);
        due.is("its code", x.started(3), 66);
        due.is("that other queue's task", x.end(2), 0);
    }

    private static void refusedTakes() {
        due.sentence("Terms", AGAIN);
        MonitorQueues x = new MonitorQueues(100);
        x.trigger(9, 1, 66);
        x.put(9, 3, 1L, 2);
        x.put(9, 3, 1L, 2);
        due.is("pending", x.take(9), -5);
        x.unit(2, true);
        due.is("a task began", x.count(65), 1);
        due.is("no such queue", x.take(-1), -2);
        due.is("empty", x.take(0), -4);
        due.is("refused takes took nothing", x.end(1), 2);
    }

    private static void pendingOnesAlone() {
        due.sentence("Terms", AGAIN);
        MonitorQueues x = new MonitorQueues(100);
        x.trigger(9, 1, 66);
        put(x, 9, 1);
        x.put(9, 3, 1L, 2);
        due.is("one stands, one is pending", x.end(1), 2);
        x.take(9);
        due.is("taken, and a pending one alone is left", x.end(2), 0);
        due.is("nothing began", x.count(65), 2);
    }

    private static void taskNumbers() {
        due.sentence("Terms", "TASKS have numbers from 1 on, in the order in which they begin; they go till end() is"
                + " told.");
        MonitorQueues x = new MonitorQueues(100);
        x.delay(10, 5L);
        x.delay(20, 0L);
        x.trigger(3, 1, 30);
        put(x, 3, 1);
        x.tick(5L);
        due.is("the first", x.started(1), 20);
        due.is("the second", x.started(2), 30);
        due.is("the third", x.started(3), 10);
        x.tick(500L);
        x.trigger(3, 0, 0);
        due.is("all go", x.count(66), 3);
        x.end(2);
        due.is("two go", x.count(66), 2);
        x.delay(40, 0L);
        due.is("a number is used once", x.started(4), 40);
    }

    private static void timeAtFirst() {
        due.sentence("Terms", "TIME is 0 at first.");
        MonitorQueues x = new MonitorQueues(100);
        due.is("before it", x.tick(-1L), -1);
        x.put(0, 0, 1L, 0);
        due.is("used at 0", x.age(0L), 0);
        x.delay(5, 1L);
        due.is("1 is behind it", x.count(67), 1);
        x.delay(5, 0L);
        due.is("0 is not", x.count(65), 1);
        due.is("it is 0 still", x.tick(0L), 0);
    }

    private static void postedAtOrBehind() {
        due.sentence("Terms", "DELAYS have numbers from 1 on; one is POSTED when time is at or behind its own: a task"
                + " of its code begins");
        MonitorQueues x = new MonitorQueues(100);
        due.is("its number", x.delay(5, 10L), 1);
        due.is("the next number", x.delay(6, 20L), 2);
        x.tick(9L);
        due.is("before", x.count(65), 0);
        x.tick(10L);
        due.is("at", x.started(1), 5);
        x.tick(19L);
        due.is("before", x.count(65), 1);
        x.tick(21L);
        due.is("behind", x.started(2), 6);
    }

    private static void orderOfPosting() {
        due.sentence("Terms", "of several in the order of their times, then numbers.");
        MonitorQueues x = new MonitorQueues(100);
        long[] times = {9L, 4L, 9L, 4L, 1L, 9L, 4L};
        for (int i = 0; i < times.length; i++) {
            x.delay(i + 1, times[i]);
        }
        due.is("all", x.tick(9L), 7);
        int[] codes = {5, 2, 4, 7, 1, 3, 6};
        for (int i = 0; i < codes.length; i++) {
            due.is("task " + (i + 1), x.started(i + 1), codes[i]);
        }
    }

    private static void orderBehindACancel() {
        due.sentence("Terms", "of several in the order of their times, then numbers.");
        MonitorQueues x = new MonitorQueues(100);
        x.delay(1, Long.MAX_VALUE);
        x.delay(2, 7L);
        x.delay(3, 7L);
        x.delay(4, 6L);
        x.cancel(2);
        x.delay(5, 7L);
        due.is("all", x.tick(Long.MAX_VALUE), 4);
        int[] codes = {4, 3, 5, 1};
        for (int i = 0; i < codes.length; i++) {
            due.is("task " + (i + 1), x.started(i + 1), codes[i]);
        }
    }

    public static void main(String[] args) {
        oneForAQueue();
        readyAtFirst();
        readyByFewer();
        readyByFewerThatStand();
        beginsAtTheCount();
        beginsBeyondTheCount();
        notReadyByBeginning();
        waitsForItsTask();
        queueByQueue();
        behindEachCall();
        nothingTaken();
        somethingTaken();
        takenFromAnotherQueue();
        refusedTakes();
        pendingOnesAlone();
        taskNumbers();
        timeAtFirst();
        postedAtOrBehind();
        orderOfPosting();
        orderBehindACancel();
        due.finish();
    }
}
