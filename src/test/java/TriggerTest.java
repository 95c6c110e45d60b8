/** Promise 6: trigger, and when its tasks begin. */
public final class TriggerTest {
    private static final Due due = new Due();

    private static void answers() {
        MonitorQueues x = new MonitorQueues(100);
        x.put(0, 0, 1L, 0);
        x.put(1, 1, 1L, 0);
        x.put(2, 2, 1L, 0);
        x.put(3, 3, 1L, 0);
        due.is("temporary", x.trigger(0, 1, 5), -3);
        due.is("temporary and protected", x.trigger(1, 0, 5), -3);
        due.is("transient", x.trigger(2, 4096, 5), 1);
        due.is("transient and protected", x.trigger(3, 2, 5), 1);
        due.is("no kind", x.trigger(31, 1, 5), 1);
        due.is("none, where none was", x.trigger(30, 0, 5), 1);
        int[] wrong = {-1, 4097, Integer.MIN_VALUE, Integer.MAX_VALUE};
        int[] queues = {-1, 32, Integer.MIN_VALUE, Integer.MAX_VALUE};
        for (int i = 0; i < 4; i++) {
            due.is("count " + wrong[i], x.trigger(2, wrong[i], 5), -2);
            due.is("count " + wrong[i] + " of a temporary one", x.trigger(0, wrong[i], 5), -2);
            due.is("queue " + queues[i], x.trigger(queues[i], 1, 5), -2);
        }
        due.is("nothing began", x.count(65), 0);
    }

    private static void onlyTransient() {
        MonitorQueues x = new MonitorQueues(100);
        x.trigger(4, 2, 5);
        due.is("temporary", x.put(4, 0, 1L, 0), -3);
        due.is("temporary and protected", x.put(4, 1, 1L, 0), -3);
        due.is("still no kind", x.count(36), -1);
        due.is("transient", x.put(4, 2, 1L, 0), 1);
        x.take(4);
        due.is("kept while empty", x.put(4, 0, 1L, 0), -3);
        due.is("transient and protected", x.put(4, 3, 1L, 0), 2);
        x.take(4);
        x.trigger(4, 0, 0);
        due.is("temporary without it", x.put(4, 0, 1L, 0), 1);
    }

    private static void beginsAtCount() {
        MonitorQueues x = new MonitorQueues(100);
        x.trigger(4, 3, 55);
        x.put(4, 2, 1L, 0);
        x.put(4, 2, 1L, 0);
        due.is("2 of 3", x.count(65), 0);
        x.put(4, 2, 1L, 0);
        due.is("3 of 3", x.count(65), 1);
        due.is("its code", x.started(1), 55);
        x.put(4, 2, 1L, 0);
        due.is("4 of 3: it is not ready", x.count(65), 1);
        x.take(4);
        due.is("end, something was taken", x.end(1), 0);
        due.is("3 of 3: not ready yet", x.count(65), 1);
        x.take(4);
        due.is("2 of 3: ready", x.count(65), 1);
        x.put(4, 2, 1L, 0);
        due.is("3 of 3: again", x.count(65), 2);
    }

    private static void waitsForItsTask() {
        MonitorQueues x = new MonitorQueues(100);
        x.trigger(4, 2, 55);
        x.put(4, 2, 1L, 0);
        x.put(4, 2, 1L, 0);
        x.take(4);
        x.put(4, 2, 1L, 0);
        due.is("ready, but its task goes", x.count(65), 1);
        due.is("none begins again", x.end(1), 0);
        due.is("but one begins behind the call", x.count(65), 2);
        due.is("it goes", x.count(66), 1);
        due.is("its code", x.started(2), 55);
        x.put(4, 2, 1L, 0);
        due.is("not ready now", x.count(65), 2);
    }

    private static void itemsThatAreThere() {
        MonitorQueues x = new MonitorQueues(100);
        x.put(4, 2, 1L, 0);
        x.put(4, 2, 1L, 0);
        x.trigger(4, 3, 7);
        due.is("fewer", x.count(65), 0);
        x.trigger(4, 2, -8);
        due.is("enough", x.count(65), 1);
        due.is("its code", x.started(1), -8);
        x.trigger(4, 1, 9);
        due.is("another is ready, the task is not its own", x.count(65), 2);
        due.is("its code", x.started(2), 9);
        due.is("the task of the one before", x.end(1), 0);
        due.is("nothing began for it", x.count(65), 2);
        due.is("the task of this one", x.end(2), 3);
        x.trigger(4, 0, 9);
        due.is("without a trigger", x.end(3), 0);
        x.put(4, 2, 1L, 0);
        due.is("nothing begins any more", x.count(65), 3);
        due.is("nothing goes", x.count(66), 0);
    }

    private static void pendingDoNotCount() {
        MonitorQueues x = new MonitorQueues(100);
        x.trigger(4, 2, 7);
        x.put(4, 3, 1L, 0);
        x.put(4, 3, 1L, 3);
        x.put(4, 3, 1L, 3);
        due.is("pending", x.count(65), 0);
        x.unit(3, false);
        due.is("gone", x.count(65), 0);
        x.put(4, 3, 1L, 3);
        x.unit(3, true);
        due.is("standing", x.count(65), 1);
        x.put(4, 3, 1L, 3);
        x.take(4);
        x.take(4);
        x.end(1);
        due.is("a pending one is left", x.count(65), 1);
        x.put(4, 3, 1L, 3);
        x.unit(3, true);
        due.is("it was ready", x.count(65), 2);
    }

    private static void queueByQueue() {
        MonitorQueues x = new MonitorQueues(100);
        x.trigger(31, 1, 31);
        x.trigger(0, 1, 100);
        x.trigger(7, 1, 7);
        x.put(31, 3, 1L, 1);
        x.put(7, 3, 1L, 1);
        x.put(0, 3, 1L, 1);
        due.is("three stand", x.unit(1, true), 3);
        due.is("three began", x.count(65), 3);
        due.is("queue 0", x.started(1), 100);
        due.is("queue 7", x.started(2), 7);
        due.is("queue 31", x.started(3), 31);
    }

    private static void refusedChangesNothing() {
        MonitorQueues x = new MonitorQueues(100);
        x.trigger(4, 2, 7);
        x.trigger(4, -1, 8);
        x.trigger(4, 4097, 8);
        x.put(4, 2, 1L, 0);
        x.put(4, 2, 1L, 0);
        due.is("the one that was there", x.started(1), 7);
    }

    public static void main(String[] args) {
        answers();
        onlyTransient();
        beginsAtCount();
        waitsForItsTask();
        itemsThatAreThere();
        pendingDoNotCount();
        queueByQueue();
        refusedChangesNothing();
        due.finish();
    }
}
