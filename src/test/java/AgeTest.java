/** Promise 14: age. */
public final class AgeTest {
    private static final Due due = new Due();

    private static void uses() {
        MonitorQueues x = new MonitorQueues(100);
        for (int q = 0; q < 8; q++) {
            x.put(q, q % 2, 7L, 0);
        }
        x.next(7, 0);
        x.tick(10L);
        x.put(0, 0, 8L, 0);
        due.item("get", x, 1, 1, 7L);
        x.next(2, 0);
        x.rewrite(3, 1, 8L);
        due.is("put of another kind is no use", x.put(4, 1, 8L, 0), -3);
        due.noItem("get of no item is no use", x, 5, 2);
        due.is("rewrite of no item is no use", x.rewrite(6, 2, 8L), -4);
        due.is("next behind the last is no use", x.next(7, 0), -4);
        due.is("count is no use", x.count(4), 1);
        due.is("at their last use", x.age(0L), 0);
        due.is("behind it", x.age(10L), 4);
        for (int q = 0; q < 8; q++) {
            due.is("items of " + q, x.count(q), q == 0 ? 2 : q < 4 ? 1 : 0);
            due.is("kind of " + q, x.count(32 + q), q < 4 ? q % 2 : -1);
        }
        due.is("all items", x.count(64), 5);
        due.is("empty ones are not counted", x.age(10L), 0);
        due.is("behind all", x.age(Long.MAX_VALUE), 4);
        due.is("no items", x.count(64), 0);
    }

    private static void spared() {
        MonitorQueues x = new MonitorQueues(100);
        x.put(0, 2, 1L, 0);
        x.put(1, 3, 1L, 0);
        x.put(2, 1, 1L, 0);
        x.put(2, 1, 1L, 6);
        x.put(31, 1, 1L, 0);
        due.is("far before", x.age(Long.MIN_VALUE), 0);
        due.is("only one that is temporary and not locked", x.age(5L), 1);
        due.is("that one", x.count(31), 0);
        due.is("all items", x.count(64), 4);
        x.unit(6, false);
        due.is("not locked any more", x.age(5L), 1);
        due.is("that one", x.count(34), -1);
    }

    private static void refusedByTheLock() {
        MonitorQueues x = new MonitorQueues(2);
        x.put(0, 1, 1L, 0);
        x.put(1, 0, 1L, 0);
        x.tick(5L);
        due.is("no room: no use", x.put(0, 1, 1L, 0), -1);
        due.is("a unit's end is no use", x.unit(3, true), 0);
        due.is("both", x.age(5L), 2);
        x.put(0, 1, 1L, 3);
        x.tick(6L);
        due.is("locked: no use", x.put(0, 1, 1L, 4), -5);
        x.unit(3, true);
        due.is("used at 5", x.age(6L), 1);
        x.put(0, 0, 1L, 0);
        due.is("used at 6", x.age(6L), 0);
        due.is("behind 6", x.age(7L), 1);
    }

    public static void main(String[] args) {
        uses();
        spared();
        refusedByTheLock();
        due.finish();
    }
}
