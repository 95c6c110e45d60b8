/** Promise 10: delay. */
public final class DelayTest {
    private static final Due due = new Due();

    private static void numbers() {
        due.sentence("Promise 10", "A delay till a time: its number");
        MonitorQueues x = new MonitorQueues(1);
        due.is("the first", x.delay(51, 9L), 1);
        due.is("an earlier one", x.delay(52, 4L), 2);
        due.is("a far one", x.delay(Integer.MIN_VALUE, Long.MAX_VALUE), 3);
        due.is("one that is posted at once", x.delay(Integer.MAX_VALUE, 0L), 4);
        x.cancel(1);
        due.is("numbers go on", x.delay(0, 9L), 5);
        due.is("they wait", x.count(67), 3);
        due.is("one began", x.count(65), 1);
    }

    private static void postedAtOnce() {
        due.sentence("Promise 10", "(it is posted at once, if that is not behind the time now)");
        MonitorQueues x = new MonitorQueues(1);
        due.is("far before", x.delay(4, Long.MIN_VALUE), 1);
        due.is("just before", x.delay(5, -1L), 2);
        due.is("now", x.delay(6, 0L), 3);
        due.is("just behind", x.delay(7, 1L), 4);
        due.is("far behind", x.delay(8, Long.MAX_VALUE), 5);
        due.is("three began", x.count(65), 3);
        due.is("they go", x.count(66), 3);
        due.is("two wait", x.count(67), 2);
        due.is("the first", x.started(1), 4);
        due.is("the second", x.started(2), 5);
        due.is("the third", x.started(3), 6);
        due.is("they wait no more", x.cancel(3), 0);
        due.is("they are not posted twice", x.tick(0L), 0);
    }

    private static void postedAtOnceLater() {
        due.sentence("Promise 10", "(it is posted at once, if that is not behind the time now)");
        MonitorQueues x = new MonitorQueues(1);
        x.tick(100L);
        x.delay(8, 100L);
        due.is("now", x.started(1), 8);
        x.delay(9, 99L);
        due.is("just before", x.started(2), 9);
        x.delay(10, 101L);
        due.is("just behind", x.started(3), 0);
        due.is("it waits", x.count(67), 1);
        x.tick(Long.MAX_VALUE);
        x.delay(11, Long.MAX_VALUE);
        due.is("at the end of time", x.started(4), 11);
    }

    private static MonitorQueues withTwoHundred() {
        MonitorQueues x = new MonitorQueues(1);
        for (int i = 1; i <= 200; i++) {
            due.is("delay " + i, x.delay(i, 1000L - i), i);
        }
        return x;
    }

    private static void twoHundredWait() {
        due.sentence("Promise 10", "NONE when there are 200 that wait");
        MonitorQueues x = withTwoHundred();
        due.is("200 wait", x.count(67), 200);
        int[] before = Due.counts(x);
        due.is("one more", x.delay(1, 5000L), -1);
        due.is("one more, of an earlier time", x.delay(1, 1L), -1);
        due.is("one more, of the time now", x.delay(1, 0L), -1);
        due.unchanged("one more", x, before);
        due.is("all are posted", x.tick(999L), 200);
        due.is("the earliest first", x.started(1), 200);
        due.is("the latest last", x.started(200), 1);
    }

    private static void lessThanTwoHundred() {
        due.sentence("Promise 10", "NONE when there are 200 that wait");
        MonitorQueues x = withTwoHundred();
        due.is("200 wait", x.delay(1, 5000L), -1);
        x.cancel(77);
        due.is("199 waited; no number was used up", x.delay(201, 5000L), 201);
        due.is("200 wait", x.delay(1, 5000L), -1);
        due.is("one is posted", x.tick(800L), 1);
        due.is("199 waited", x.delay(202, 5000L), 202);
        due.is("200 wait", x.delay(1, 5000L), -1);
        x.cancel(1);
        due.is("199 wait: posted at once", x.delay(203, 0L), 203);
        due.is("199 wait still", x.delay(204, 5000L), 204);
        due.is("200 wait", x.delay(1, 5000L), -1);
    }

    public static void main(String[] args) {
        numbers();
        postedAtOnce();
        postedAtOnceLater();
        twoHundredWait();
        lessThanTwoHundred();
        due.finish();
    }
}
