/** Promises 10, 11 and 12: delay, cancel and tick. */
public final class DelayTest {
    private static final Due due = new Due();

    private static void order() {
        MonitorQueues x = new MonitorQueues(1);
        due.is("1", x.delay(51, 9L), 1);
        due.is("2", x.delay(52, 4L), 2);
        due.is("3", x.delay(53, 9L), 3);
        due.is("4", x.delay(54, 4L), 4);
        due.is("5", x.delay(55, 10L), 5);
        due.is("they wait", x.count(67), 5);
        due.is("before all", x.tick(3L), 0);
        due.is("up to 9", x.tick(9L), 4);
        int[] codes = {52, 54, 51, 53};
        for (int i = 0; i < codes.length; i++) {
            due.is("task " + (i + 1), x.started(i + 1), codes[i]);
        }
        due.is("one waits", x.count(67), 1);
        due.is("four began", x.count(65), 4);
        due.is("four go", x.count(66), 4);
        due.is("the same time", x.tick(9L), 0);
        due.is("the last", x.tick(Long.MAX_VALUE), 1);
        due.is("its code", x.started(5), 55);
    }

    private static void atOnce() {
        MonitorQueues x = new MonitorQueues(1);
        due.is("at 0", x.delay(5, 0L), 1);
        due.is("before 0", x.delay(6, Long.MIN_VALUE), 2);
        due.is("behind 0", x.delay(7, 1L), 3);
        due.is("two began", x.count(65), 2);
        due.is("their codes", x.started(2), 6);
        due.is("one waits", x.count(67), 1);
        x.tick(100L);
        due.is("at 100", x.delay(8, 100L), 4);
        due.is("at 101", x.delay(9, 101L), 5);
        due.is("four began", x.count(65), 4);
        due.is("its code", x.started(4), 8);
        due.is("not posted twice", x.tick(100L), 0);
    }

    private static void time() {
        MonitorQueues x = new MonitorQueues(1);
        due.is("before 0", x.tick(-1L), -1);
        due.is("far before", x.tick(Long.MIN_VALUE), -1);
        due.is("on", x.tick(10L), 0);
        x.delay(5, 12L);
        due.is("back", x.tick(9L), -1);
        due.is("on", x.tick(11L), 0);
        due.is("back, far", x.tick(0L), -1);
        due.is("time stayed at 11", x.tick(10L), -1);
        due.is("on", x.tick(12L), 1);
        due.is("the end", x.tick(Long.MAX_VALUE), 0);
        due.is("a delay till the end", x.delay(6, Long.MAX_VALUE), 2);
        due.is("is posted", x.started(2), 6);
    }

    private static void cancelled() {
        MonitorQueues x = new MonitorQueues(1);
        x.delay(5, 3L);
        x.delay(6, 3L);
        x.delay(7, 3L);
        x.delay(8, 0L);
        due.is("the middle", x.cancel(2), 1);
        due.is("again", x.cancel(2), 0);
        due.is("one that was posted at once", x.cancel(4), 0);
        int[] none = {0, 5, -1, Integer.MIN_VALUE, Integer.MAX_VALUE};
        for (int i : none) {
            due.is("cancel(" + i + ")", x.cancel(i), 0);
        }
        due.is("two wait", x.count(67), 2);
        due.is("two are posted", x.tick(3L), 2);
        due.is("the first", x.started(2), 5);
        due.is("the third", x.started(3), 7);
        due.is("one that was posted", x.cancel(1), 0);
        due.is("numbers go on", x.delay(9, 99L), 5);
    }

    private static void twoHundred() {
        MonitorQueues x = new MonitorQueues(1);
        for (int i = 1; i <= 200; i++) {
            due.is("delay " + i, x.delay(i, 1000L - i), i);
        }
        due.is("200 wait", x.count(67), 200);
        due.is("one more", x.delay(1, 5000L), -1);
        due.is("one more, that would be posted at once", x.delay(1, 0L), -1);
        due.is("nothing began", x.count(65), 0);
        due.is("one less", x.cancel(77), 1);
        due.is("one more; no number was used", x.delay(201, 5000L), 201);
        due.is("one more", x.delay(1, 5000L), -1);
        due.is("199 of them", x.tick(999L), 199);
        due.is("the earliest first", x.started(1), 200);
        due.is("the latest last", x.started(199), 1);
        due.is("one waits", x.count(67), 1);
        due.is("there is place", x.delay(5, 5000L), 202);
    }

    public static void main(String[] args) {
        order();
        atOnce();
        time();
        cancelled();
        twoHundred();
        due.finish();
    }
}
