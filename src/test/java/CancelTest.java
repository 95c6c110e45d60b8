/** Promise 11: cancel. */
public final class CancelTest {
    private static final Due due = new Due();

    private static void postedNoMore() {
        due.sentence("Promise 11", "A delay is posted no more: 1");
        MonitorQueues x = new MonitorQueues(1);
        for (int i = 1; i <= 5; i++) {
            x.delay(i * 11, 3L);
        }
        due.is("the first", x.cancel(1), 1);
        due.is("the middle", x.cancel(3), 1);
        due.is("the last", x.cancel(5), 1);
        due.is("two wait", x.count(67), 2);
        due.is("two are posted", x.tick(3L), 2);
        due.is("the second", x.started(1), 22);
        due.is("the fourth", x.started(2), 44);
        due.is("no others began", x.count(65), 2);
    }

    private static void doesNotWait() {
        due.sentence("Promise 11", "0 when it doesn't wait");
        MonitorQueues x = new MonitorQueues(1);
        due.is("none yet", x.cancel(1), 0);
        x.delay(5, 3L);
        x.delay(6, 9L);
        x.delay(7, 0L);
        x.delay(8, 9L);
        int[] before = Due.counts(x);
        for (int delay : Due.outside(1, 4)) {
            due.is("cancel(" + delay + ")", x.cancel(delay), 0);
        }
        due.is("one that was posted at once", x.cancel(3), 0);
        due.unchanged("cancel of what doesn't wait", x, before);
        x.tick(3L);
        due.is("one that was posted later", x.cancel(1), 0);
        due.is("one that waits", x.cancel(2), 1);
        due.is("again", x.cancel(2), 0);
        due.is("one waits still", x.tick(9L), 1);
        due.is("its task goes on", x.count(66), 3);
    }

    public static void main(String[] args) {
        postedNoMore();
        doesNotWait();
        due.finish();
    }
}
