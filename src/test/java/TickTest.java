/** Promise 12: tick. */
public final class TickTest {
    private static final Due due = new Due();

    private static void howMany() {
        due.sentence("Promise 12", "Time goes on to t: how many delays were posted");
        MonitorQueues x = new MonitorQueues(1);
        due.is("no delays", x.tick(1L), 0);
        x.delay(51, 9L);
        x.delay(52, 4L);
        x.delay(53, 9L);
        x.delay(54, 10L);
        due.is("before all", x.tick(3L), 0);
        due.is("at the first", x.tick(4L), 1);
        due.is("before the next", x.tick(8L), 0);
        due.is("at two", x.tick(9L), 2);
        due.is("they are not posted again", x.tick(9L), 0);
        due.is("behind the last", x.tick(11L), 1);
        due.is("four go", x.count(66), 4);
        due.is("none waits", x.count(67), 0);
    }

    private static void farOn() {
        due.sentence("Promise 12", "Time goes on to t: how many delays were posted");
        MonitorQueues x = new MonitorQueues(1);
        x.delay(5, Long.MAX_VALUE);
        due.is("just before the end of time", x.tick(Long.MAX_VALUE - 1), 0);
        due.is("at the end of time", x.tick(Long.MAX_VALUE), 1);
        due.is("the same time", x.tick(Long.MAX_VALUE), 0);
        due.is("nothing is behind it", x.tick(Long.MIN_VALUE), -1);
    }

    private static void before() {
        due.sentence("Promise 12", "NONE when t is before the time now");
        MonitorQueues x = new MonitorQueues(1);
        due.is("just before 0", x.tick(-1L), -1);
        due.is("far before 0", x.tick(Long.MIN_VALUE), -1);
        due.is("0 itself", x.tick(0L), 0);
        x.tick(10L);
        x.delay(5, 12L);
        int[] before = Due.counts(x);
        due.is("just before", x.tick(9L), -1);
        due.is("0", x.tick(0L), -1);
        due.unchanged("tick back", x, before);
        due.is("the time now", x.tick(10L), 0);
        due.is("time did not go back", x.tick(9L), -1);
        x.delay(6, 10L);
        due.is("it is 10 still", x.started(1), 6);
        due.is("on", x.tick(12L), 1);
    }

    public static void main(String[] args) {
        howMany();
        farOn();
        before();
        due.finish();
    }
}
