/** Promise 1: the room of a new object, and what it begins with. */
public final class NewObjectTest {
    private static final Due due = new Due();

    private static void holds(int room, int want) {
        MonitorQueues x = new MonitorQueues(room);
        for (int i = 1; i <= want; i++) {
            due.is("room " + room + ": put " + i, x.put(i % 32, 0, i, 0) >= 1 ? 1 : 0, 1);
        }
        due.is("room " + room + ": put beyond", x.put(0, 0, 0L, 0), -1);
        due.is("room " + room + ": count(64)", x.count(64), want);
    }

    private static void manyFit(int room) {
        MonitorQueues x = new MonitorQueues(room);
        for (int i = 1; i <= 511; i++) {
            due.is("room " + room + ": put " + i, x.put(7, 2, i, 0), i);
        }
        due.is("room " + room + ": count(64)", x.count(64), 511);
    }

    public static void main(String[] args) {
        holds(1, 1);
        holds(2, 2);
        holds(300, 300);
        holds(0, 1);
        holds(-1, 1);
        holds(Integer.MIN_VALUE, 1);
        manyFit(4096);
        manyFit(4097);
        manyFit(Integer.MAX_VALUE);

        MonitorQueues x = new MonitorQueues(5);
        for (int q = 0; q < 32; q++) {
            due.is("new: items of " + q, x.count(q), 0);
            due.is("new: kind of " + q, x.count(32 + q), -1);
        }
        for (int what = 64; what < 68; what++) {
            due.is("new: count(" + what + ")", x.count(what), 0);
        }
        due.is("new: time is 0", x.tick(-1L), -1);
        due.is("new: tick(0)", x.tick(0L), 0);

        MonitorQueues one = new MonitorQueues(5);
        MonitorQueues other = new MonitorQueues(5);
        one.put(0, 0, 1L, 0);
        one.tick(9L);
        due.is("another object has items of its own", other.count(64), 0);
        due.is("another object has a time of its own", other.tick(3L), 0);
        due.finish();
    }
}
