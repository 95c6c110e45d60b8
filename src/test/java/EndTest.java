/** Promise 8: end. */
public final class EndTest {
    private static final Due due = new Due();

    private static void beginsAgain() {
        due.sentence("Promise 8", "A task ends: the number of the one that begins again for it");
        MonitorQueues x = new MonitorQueues(100);
        x.trigger(9, 2, 66);
        x.put(9, 2, 1L, 0);
        x.put(9, 2, 1L, 0);
        x.delay(5, 0L);
        due.is("the next number", x.end(1), 3);
        due.is("its code", x.started(3), 66);
        due.is("it goes in the place of the other", x.count(66), 2);
        due.is("the one that ended", x.end(1), -4);
        due.is("again for the one that began again", x.end(3), 4);
    }

    private static void noneBeginsAgain() {
        due.sentence("Promise 8", "0 for none");
        MonitorQueues x = new MonitorQueues(100);
        x.delay(5, 0L);
        due.is("a delay's task", x.end(1), 0);
        due.is("nothing goes", x.count(66), 0);
        due.is("nothing began", x.count(65), 1);
        x.trigger(9, 1, 66);
        x.put(9, 2, 1L, 0);
        x.put(9, 2, 1L, 0);
        x.take(9);
        due.is("something was taken, something is left", x.end(2), 0);
        due.is("nothing goes", x.count(66), 0);
        x.take(9);
        x.put(9, 2, 1L, 0);
        x.take(9);
        due.is("all was taken", x.end(3), 0);
        due.is("nothing goes", x.count(66), 0);
    }

    private static void readyIsNotAgain() {
        due.sentence("Promise 8", "0 for none");
        MonitorQueues x = new MonitorQueues(100);
        x.trigger(9, 1, 66);
        x.put(9, 2, 1L, 0);
        x.take(9);
        x.put(9, 2, 1L, 0);
        due.is("taken, so none begins again", x.end(1), 0);
        due.is("but the trigger is ready: behind the call", x.count(65), 2);
        due.is("it goes", x.count(66), 1);
    }

    private static void doesNotGo() {
        due.sentence("Promise 8", "-4 when it doesn't go");
        MonitorQueues x = new MonitorQueues(100);
        due.is("no task yet", x.end(1), -4);
        x.delay(5, 0L);
        x.delay(6, 0L);
        x.delay(7, 9L);
        int[] before = Due.counts(x);
        for (int task : Due.outside(1, 2)) {
            due.is("end(" + task + ")", x.end(task), -4);
        }
        due.unchanged("end of no task", x, before);
        due.is("the last one", x.end(2), 0);
        due.is("again", x.end(2), -4);
        due.is("the first one goes still", x.count(66), 1);
        due.is("the first one", x.end(1), 0);
    }

    private static void endedOnesStayEnded() {
        due.sentence("Promise 8", "-4 when it doesn't go");
        MonitorQueues x = new MonitorQueues(100);
        x.trigger(9, 1, 66);
        x.put(9, 2, 1L, 0);
        x.end(1);
        due.is("one that began again is another one", x.end(1), -4);
        due.is("began", x.count(65), 2);
        due.is("go", x.count(66), 1);
    }

    public static void main(String[] args) {
        beginsAgain();
        noneBeginsAgain();
        readyIsNotAgain();
        doesNotGo();
        endedOnesStayEnded();
        due.finish();
    }
}
