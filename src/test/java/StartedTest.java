/** Promise 7: started. */
public final class StartedTest {
    private static final Due due = new Due();

    private static void codes() {
        due.sentence("Promise 7", "The code of task i (from 1 on)");
        MonitorQueues x = new MonitorQueues(100);
        x.delay(Integer.MAX_VALUE, 0L);
        x.trigger(5, 1, Integer.MIN_VALUE);
        x.put(5, 2, 1L, 0);
        x.delay(0, 0L);
        x.delay(-1, 0L);
        due.is("a delay's", x.started(1), Integer.MAX_VALUE);
        due.is("a trigger's", x.started(2), Integer.MIN_VALUE);
        due.is("a code of 0", x.started(3), 0);
        due.is("the last", x.started(4), -1);
        x.end(1);
        due.is("one that ended", x.started(1), Integer.MAX_VALUE);
        due.is("asking begins nothing", x.count(65), 4);
    }

    private static void noneSuch() {
        due.sentence("Promise 7", "0 when there is none such");
        MonitorQueues x = new MonitorQueues(100);
        for (int i = -1; i <= 1; i++) {
            due.is("no task yet: " + i, x.started(i), 0);
        }
        x.delay(3, 1L);
        due.is("a delay that waits is no task", x.started(1), 0);
        x.delay(7, 0L);
        x.delay(8, 0L);
        for (int i : Due.outside(1, 2)) {
            due.is("started(" + i + ")", x.started(i), 0);
        }
    }

    public static void main(String[] args) {
        codes();
        noneSuch();
        due.finish();
    }
}
