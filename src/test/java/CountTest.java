/** Promise 15: count. */
public final class CountTest {
    public static void main(String[] args) {
        Due due = new Due();
        MonitorQueues x = new MonitorQueues(500);
        for (int q = 0; q < 32; q++) {
            for (int i = 0; i <= q % 3; i++) {
                x.put(q, q % 4, 1L, 0);
            }
        }
        int all = 0;
        for (int q = 0; q < 32; q++) {
            due.is("items of " + q, x.count(q), q % 3 + 1);
            due.is("kind of " + q, x.count(32 + q), q % 4);
            all += q % 3 + 1;
        }
        due.is("all items", x.count(64), all);
        x.put(3, 3, 1L, 2);
        due.is("pending ones are items", x.count(3), 2);
        due.is("pending ones are among all", x.count(64), all + 1);
        x.take(3);
        due.is("all items", x.count(64), all);

        x.delay(1, 5L);
        x.delay(2, 0L);
        x.delay(3, 0L);
        x.end(1);
        due.is("tasks that began", x.count(65), 2);
        due.is("tasks that go", x.count(66), 1);
        due.is("delays that wait", x.count(67), 1);
        due.is("the same again", x.count(67), 1);
        int[] others = {-1, 68, 69, 96, Integer.MIN_VALUE, Integer.MIN_VALUE + 32, Integer.MAX_VALUE};
        for (int what : others) {
            due.is("count(" + what + ")", x.count(what), -2);
        }
        due.finish();
    }
}
