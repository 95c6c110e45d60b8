/** Promise 13: unit. */
public final class UnitTest {
    private static final Due due = new Due();

    private static MonitorQueues filled() {
        MonitorQueues x = new MonitorQueues(100);
        x.put(0, 1, 1L, 0);
        x.put(0, 1, 2L, 9);
        x.put(0, 1, 3L, 9);
        x.put(1, 1, 4L, 9);
        x.put(2, 3, 5L, 0);
        x.put(2, 3, 6L, 9);
        x.put(31, 3, 7L, 9);
        x.put(4, 1, 8L, 1);
        x.put(5, 0, 9L, 9);
        x.put(6, 2, 9L, 9);
        return x;
    }

    private static void commits() {
        MonitorQueues x = filled();
        due.is("they stand", x.unit(9, true), 5);
        due.is("all are there", x.count(64), 10);
        due.is("again", x.unit(9, true), 0);
        due.is("they don't go any more", x.unit(9, false), 0);
        due.is("all are there still", x.count(64), 10);
        due.item("value", x, 0, 3, 3L);
        due.is("take", x.take(31), 1);
        due.is("open", x.put(0, 1, 1L, 0), 4);
        due.is("another unit's stay pending", x.put(4, 1, 1L, 0), -5);
        due.is("another unit's", x.unit(1, false), 1);
    }

    private static void goes() {
        MonitorQueues x = filled();
        due.is("they go", x.unit(9, false), 5);
        int[] left = {1, 0, 1, 0, 1, 1, 1};
        int[] kinds = {1, -1, 3, -1, 1, 0, 2};
        for (int q = 0; q < left.length; q++) {
            due.is("items of " + q, x.count(q), left[q]);
            due.is("kind of " + q, x.count(32 + q), kinds[q]);
        }
        due.is("items of 31", x.count(31), 0);
        due.is("kind of 31", x.count(63), -1);
        due.is("all items", x.count(64), 5);
        due.item("the one that stood", x, 0, 1, 1L);
        due.is("a temporary one's number", x.put(0, 1, 1L, 0), 2);
        due.is("a transient one's number", x.put(2, 3, 1L, 0), 2);
        due.is("any kind for one that became empty", x.put(31, 0, 1L, 0), 1);
        due.is("again", x.unit(9, false), 0);
        due.is("a unit can go on", x.put(1, 3, 1L, 9), 1);
        due.is("and end again", x.unit(9, true), 1);
    }

    private static void firstOnesTaken() {
        MonitorQueues x = new MonitorQueues(100);
        x.put(2, 3, 1L, 0);
        x.put(2, 3, 2L, 4);
        x.put(2, 3, 3L, 4);
        x.take(2);
        due.is("both go", x.unit(4, false), 2);
        due.is("empty", x.count(34), -1);
        due.item("the taken one", x, 2, 1, 1L);
        due.is("on from the taken one", x.put(2, 2, 4L, 0), 2);
    }

    public static void main(String[] args) {
        commits();
        goes();
        firstOnesTaken();
        MonitorQueues x = new MonitorQueues(100);
        int[] units = {0, 10, -1, Integer.MIN_VALUE, Integer.MAX_VALUE};
        x.put(0, 1, 1L, 0);
        for (int unit : units) {
            due.is("unit(" + unit + ", true)", x.unit(unit, true), -2);
            due.is("unit(" + unit + ", false)", x.unit(unit, false), -2);
        }
        for (int unit = 1; unit <= 9; unit++) {
            due.is("nothing pending", x.unit(unit, false), 0);
        }
        due.is("the item of no unit", x.count(0), 1);
        due.finish();
    }
}
