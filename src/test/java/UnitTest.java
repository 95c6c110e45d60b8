/** Promise 13: unit. */
public final class UnitTest {
    private static final Due due = new Due();

    private static MonitorQueues filled() {
        MonitorQueues x = new MonitorQueues(100);
        x.put(0, 1, 1L, 0);
        x.put(0, 1, 2L, 9);
        x.put(0, 1, 3L, 9);
        x.put(1, 1, 4L, 9);
        x.put(2, 3, 5L, 0);
        x.put(2, 3, 6L, 9);
        x.put(31, 3, 7L, 9);
        x.put(4, 1, 8L, 1);
        x.put(5, 0, 9L, 9);
        x.put(6, 2, 9L, 9);
        return x;
    }

    private static void theyStand() {
        due.sentence("Promise 13", "A unit ends: its pending items stand, or go: how many they were");
        MonitorQueues x = filled();
        due.is("they stand", x.unit(9, true), 5);
        due.is("all are there", x.count(64), 10);
        due.is("they are pending no more", x.unit(9, false), 0);
        due.is("all are there still", x.count(64), 10);
        due.item("a value", x, 0, 3, 3L);
        due.is("they can be taken", x.take(31), 1);
        due.is("the queue is open", x.put(0, 1, 1L, 0), 4);
        due.is("another unit's are pending still", x.put(4, 1, 1L, 0), -5);
        due.is("that unit ends", x.unit(1, false), 1);
    }

    private static void theyGo() {
        due.sentence("Promise 13", "A unit ends: its pending items stand, or go: how many they were");
        MonitorQueues x = filled();
        due.is("they go", x.unit(9, false), 5);
        int[] left = {1, 0, 1, 0, 1, 1, 1};
        int[] kinds = {1, -1, 3, -1, 1, 0, 2};
        for (int q = 0; q < left.length; q++) {
            due.is("items of " + q, x.count(q), left[q]);
            due.is("kind of " + q, x.count(32 + q), kinds[q]);
        }
        due.is("items of 31", x.count(31), 0);
        due.is("kind of 31", x.count(63), -1);
        due.is("all items", x.count(64), 5);
        due.item("the one that stood", x, 0, 1, 1L);
        due.is("the queue is open", x.put(0, 1, 1L, 0), 2);
        due.is("one that became empty has any kind", x.put(31, 0, 1L, 0), 1);
        due.is("again", x.unit(9, false), 0);
    }

    private static void nothingPending() {
        due.sentence("Promise 13", "A unit ends: its pending items stand, or go: how many they were");
        MonitorQueues x = new MonitorQueues(100);
        x.put(0, 1, 1L, 0);
        x.put(1, 0, 1L, 3);
        x.put(2, 2, 1L, 3);
        for (int unit = 1; unit <= 9; unit++) {
            due.is("nothing of " + unit + " goes", x.unit(unit, false), 0);
            due.is("nothing of " + unit + " stands", x.unit(unit, true), 0);
        }
        due.is("all are there", x.count(64), 3);
    }

    private static void aUnitGoesOn() {
        due.sentence("Promise 13", "A unit ends: its pending items stand, or go: how many they were");
        MonitorQueues x = new MonitorQueues(100);
        x.put(0, 1, 1L, 1);
        due.is("it ends", x.unit(1, true), 1);
        due.is("it can put again", x.put(0, 1, 2L, 1), 2);
        due.is("only the later one is pending", x.unit(1, false), 1);
        due.is("the earlier one stands", x.count(0), 1);
    }

    private static void beforeThemAllWasTaken() {
        due.sentence("Promise 13", "A unit ends: its pending items stand, or go: how many they were");
        MonitorQueues x = new MonitorQueues(100);
        x.put(2, 3, 1L, 0);
        x.put(2, 3, 2L, 4);
        x.put(2, 3, 3L, 4);
        x.take(2);
        due.is("both go", x.unit(4, false), 2);
        due.is("the queue is empty", x.count(34), -1);
        due.is("on from the taken one", x.put(2, 2, 4L, 0), 2);
    }

    private static void noSuchUnit() {
        due.sentence("Promise 13", "-2 when it is not 1 .. 9");
        MonitorQueues x = new MonitorQueues(100);
        x.put(0, 1, 1L, 0);
        x.put(1, 1, 1L, 1);
        x.put(2, 3, 1L, 9);
        int[] before = Due.counts(x);
        for (int unit : Due.outside(1, 9)) {
            due.is("unit(" + unit + ", true)", x.unit(unit, true), -2);
            due.is("unit(" + unit + ", false)", x.unit(unit, false), -2);
        }
        due.unchanged("wrong units", x, before);
        due.is("unit 1", x.unit(1, false), 1);
        due.is("unit 9", x.unit(9, false), 1);
    }

    public static void main(String[] args) {
        theyStand();
        theyGo();
        nothingPending();
        aUnitGoesOn();
        beforeThemAllWasTaken();
        noSuchUnit();
        due.finish();
    }
}
