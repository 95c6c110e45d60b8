/** Promise 14: age. */
public final class AgeTest {
    private static final Due due = new Due();
    private static final String UNUSED = "Temporary queues that were not used (put, get, next, rewrite, that answered"
            + " by an item) at or behind a time become empty";

    private static void atThatTime() {
        due.sentence("Promise 14", UNUSED);
        MonitorQueues x = new MonitorQueues(100);
        x.tick(5L);
        x.put(0, 0, 1L, 0);
        due.is("used behind it", x.age(4L), 0);
        due.is("used at it", x.age(5L), 0);
        due.is("it is there", x.count(0), 1);
        due.is("not used at or behind it", x.age(6L), 1);
        due.is("no items", x.count(0), 0);
        due.is("no kind", x.count(32), -1);
        due.is("no items in all", x.count(64), 0);
    }

    private static void farTimes() {
        due.sentence("Promise 14", UNUSED);
        MonitorQueues x = new MonitorQueues(100);
        x.put(0, 0, 1L, 0);
        x.put(31, 1, 1L, 0);
        due.is("far before", x.age(Long.MIN_VALUE), 0);
        due.is("before time began", x.age(-1L), 0);
        due.is("far on", x.age(Long.MAX_VALUE), 2);
        x.tick(Long.MAX_VALUE);
        x.put(0, 0, 1L, 0);
        due.is("used at the end of time", x.age(Long.MAX_VALUE), 0);
    }

    private static void eachUse() {
        due.sentence("Promise 14", UNUSED);
        for (int kind = 0; kind < 2; kind++) {
            MonitorQueues x = new MonitorQueues(100);
            for (int q = 0; q < 5; q++) {
                x.put(q, kind, 7L, 0);
            }
            x.tick(10L);
            x.put(0, kind, 8L, 0);
            due.item("get", x, 1, 1, 7L);
            due.is("next", x.next(2, 0), 1);
            due.is("rewrite", x.rewrite(3, 1, 8L), 1);
            due.is("the one that was not used", x.age(10L), 1);
            for (int q = 0; q < 4; q++) {
                due.is("queue " + q + " was used", x.count(32 + q), kind);
            }
            due.is("queue 4 was not", x.count(36), -1);
            due.is("behind all uses", x.age(11L), 4);
        }
    }

    private static void refusedIsNoUse() {
        due.sentence("Promise 14", UNUSED);
        MonitorQueues x = new MonitorQueues(8);
        for (int q = 0; q < 8; q++) {
            x.put(q, 1, 7L, 0);
        }
        x.next(7, 0);
        x.tick(10L);
        due.is("put of another kind", x.put(0, 0, 8L, 0), -3);
        due.is("put without room", x.put(1, 1, 8L, 0), -1);
        due.is("put of no unit", x.put(2, 1, 8L, 10), -2);
        due.noItem("get of no item", x, 3, 2);
        due.is("rewrite of no item", x.rewrite(4, 2, 8L), -4);
        due.is("next of no reader", x.next(5, 8), -2);
        due.is("take", x.take(6), -3);
        due.is("next behind the last", x.next(7, 0), -4);
        due.is("none was used", x.age(10L), 8);
    }

    private static void otherCallsAreNoUse() {
        due.sentence("Promise 14", UNUSED);
        MonitorQueues x = new MonitorQueues(100);
        x.put(0, 1, 7L, 3);
        x.tick(10L);
        due.is("put of another unit", x.put(0, 1, 8L, 4), -5);
        due.is("put of no unit", x.put(0, 1, 8L, 0), -5);
        due.is("its unit's end", x.unit(3, true), 1);
        due.is("trigger", x.trigger(0, 1, 1), -3);
        due.is("count", x.count(0), 1);
        due.is("age", x.age(0L), 0);
        due.is("it was not used", x.age(10L), 1);
    }

    private static void transientOnes() {
        due.sentence("Promise 14", UNUSED);
        MonitorQueues x = new MonitorQueues(100);
        x.put(0, 2, 1L, 0);
        x.put(1, 3, 1L, 0);
        x.put(2, 3, 1L, 5);
        x.trigger(3, 1, 5);
        int[] before = Due.counts(x);
        due.is("transient, and empty ones", x.age(Long.MAX_VALUE), 0);
        due.unchanged("age of transient ones", x, before);
    }

    private static void usedAgain() {
        due.sentence("Promise 14", UNUSED);
        MonitorQueues x = new MonitorQueues(100);
        x.put(0, 0, 1L, 0);
        x.tick(5L);
        x.age(5L);
        x.put(0, 1, 2L, 0);
        due.is("it was used by its first put", x.age(5L), 0);
        x.tick(6L);
        due.is("and at that time only", x.age(6L), 1);
    }

    private static void lockedOnes() {
        due.sentence("Promise 14", "but for those that are locked");
        MonitorQueues x = new MonitorQueues(100);
        x.put(2, 1, 1L, 0);
        x.put(2, 1, 1L, 6);
        x.put(31, 1, 1L, 0);
        due.is("one is not locked", x.age(5L), 1);
        due.is("that one", x.count(31), 0);
        due.is("the locked one is whole", x.count(2), 2);
        due.is("its pending item is pending", x.unit(6, false), 1);
        due.is("not locked any more", x.age(5L), 1);
        x.put(2, 1, 1L, 6);
        due.is("locked", x.age(5L), 0);
        x.unit(6, true);
        due.is("not locked when they stand", x.age(5L), 1);
    }

    private static void howMany() {
        due.sentence("Promise 14", "how many.");
        MonitorQueues x = new MonitorQueues(100);
        due.is("none is there", x.age(Long.MAX_VALUE), 0);
        for (int q = 0; q < 32; q++) {
            x.put(q, q % 2, 1L, 0);
            x.put(q, q % 2, 1L, 0);
        }
        due.is("queues, not items", x.age(1L), 32);
        due.is("empty ones are not counted", x.age(1L), 0);
    }

    public static void main(String[] args) {
        atThatTime();
        farTimes();
        eachUse();
        refusedIsNoUse();
        otherCallsAreNoUse();
        transientOnes();
        usedAgain();
        lockedOnes();
        howMany();
        due.finish();
    }
}
