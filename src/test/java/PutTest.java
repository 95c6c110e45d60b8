/** Promise 2: put. */
public final class PutTest {
    private static final Due due = new Due();

    private static void behindTheOthers() {
        due.sentence("Promise 2", "An item behind the others of a queue: its number.");
        for (int kind = 0; kind < 4; kind++) {
            MonitorQueues x = new MonitorQueues(100);
            due.is("first of kind " + kind, x.put(31, kind, Long.MIN_VALUE, 0), 1);
            due.is("second of kind " + kind, x.put(31, kind, Long.MAX_VALUE, 0), 2);
            due.is("another queue of kind " + kind, x.put(0, kind, 6L, 9), 1);
            due.is("third of kind " + kind, x.put(31, kind, 0L, 1), 3);
            due.is("items of kind " + kind, x.count(31), 3);
        }
        MonitorQueues x = new MonitorQueues(100);
        x.put(31, 0, Long.MIN_VALUE, 0);
        x.put(31, 0, Long.MAX_VALUE, 0);
        due.item("the first", x, 31, 1, Long.MIN_VALUE);
        due.item("the second", x, 31, 2, Long.MAX_VALUE);
    }

    private static void allThatIsSo() {
        due.sentence("Promise 2", "An item behind the others of a queue: its number.");
        MonitorQueues x = new MonitorQueues(4096);
        for (int queue = 0; queue < 32; queue++) {
            due.is("queue " + queue, x.put(queue, queue % 4, 1L, 0), 1);
        }
        for (int unit = 0; unit <= 9; unit++) {
            due.is("unit " + unit, x.put(1, 1, 1L, unit), unit + 2);
            x.unit(unit, true);
        }
    }

    private static void noSuchQueue() {
        due.sentence("Promise 2", "-2 when queue, kind or unit is not so");
        MonitorQueues x = new MonitorQueues(100);
        x.put(31, 1, 1L, 3);
        int[] before = Due.counts(x);
        for (int queue : Due.outside(0, 31)) {
            due.is("queue " + queue, x.put(queue, 1, 1L, 0), -2);
        }
        due.unchanged("wrong queues", x, before);
    }

    private static void noSuchKind() {
        due.sentence("Promise 2", "-2 when queue, kind or unit is not so");
        MonitorQueues x = new MonitorQueues(100);
        x.put(0, 3, 1L, 0);
        int[] before = Due.counts(x);
        for (int kind : Due.outside(0, 3)) {
            due.is("kind " + kind + " into an empty queue", x.put(1, kind, 1L, 0), -2);
            due.is("kind " + kind + " into another kind", x.put(0, kind, 1L, 0), -2);
        }
        due.unchanged("wrong kinds", x, before);
    }

    private static void noSuchUnit() {
        due.sentence("Promise 2", "-2 when queue, kind or unit is not so");
        MonitorQueues x = new MonitorQueues(100);
        x.put(1, 1, 1L, 9);
        int[] before = Due.counts(x);
        for (int unit : Due.outside(0, 9)) {
            for (int kind = 0; kind < 4; kind++) {
                due.is("unit " + unit + " into a new queue of kind " + kind, x.put(4, kind, 1L, unit), -2);
            }
            due.is("unit " + unit + " into a locked one", x.put(1, 1, 1L, unit), -2);
            due.is("unit " + unit + " into another kind", x.put(1, 2, 1L, unit), -2);
        }
        due.unchanged("wrong units", x, before);
    }

    private static void notSoComesFirst() {
        due.sentence("Promise 2", "-2 when queue, kind or unit is not so");
        MonitorQueues full = new MonitorQueues(1);
        full.put(0, 1, 1L, 3);
        due.is("queue, and no room", full.put(32, 0, 1L, 0), -2);
        due.is("kind, and no room", full.put(1, 4, 1L, 0), -2);
        due.is("unit, and no room", full.put(1, 0, 1L, 10), -2);
        due.is("unit, another kind, a lock and no room", full.put(0, 3, 1L, -1), -2);
    }

    private static void anotherKind() {
        due.sentence("Promise 2", "-3 when the queue has another kind");
        for (int kind = 0; kind < 4; kind++) {
            MonitorQueues x = new MonitorQueues(100);
            x.put(31, kind, 5L, 0);
            int[] before = Due.counts(x);
            for (int other = 0; other < 4; other++) {
                if (other != kind) {
                    due.is("kind " + other + " into " + kind, x.put(31, other, 7L, 0), -3);
                    due.is("kind " + other + " into " + kind + " by a unit", x.put(31, other, 7L, 1), -3);
                }
            }
            due.unchanged("other kinds", x, before);
            due.is("its own kind", x.put(31, kind, 7L, 0), 2);
        }
        MonitorQueues full = new MonitorQueues(1);
        full.put(0, 1, 1L, 3);
        due.is("before a lock and no room", full.put(0, 3, 1L, 4), -3);
    }

    private static void lockedByAnotherUnit() {
        due.sentence("Promise 2", "-5 when it is protected, and locked by another unit");
        for (int kind = 1; kind < 4; kind += 2) {
            MonitorQueues x = new MonitorQueues(100);
            due.is("the first unit", x.put(2, kind, 1L, 5), 1);
            int[] before = Due.counts(x);
            for (int unit = 1; unit <= 9; unit++) {
                if (unit != 5) {
                    due.is("unit " + unit, x.put(2, kind, 1L, unit), -5);
                }
            }
            due.unchanged("other units", x, before);
            due.is("the same unit", x.put(2, kind, 1L, 5), 2);
            due.is("another queue is not locked", x.put(3, kind, 1L, 6), 1);
            x.unit(6, true);
            due.is("another unit's end opens nothing", x.put(2, kind, 1L, 6), -5);
            x.unit(5, true);
            due.is("open when they stand", x.put(2, kind, 1L, 6), 3);
            x.unit(6, false);
            due.is("open when they went", x.put(2, kind, 1L, 7), 3);
        }
        MonitorQueues full = new MonitorQueues(1);
        full.put(0, 1, 1L, 3);
        due.is("before no room", full.put(0, 1, 1L, 4), -5);
    }

    private static void notProtectedIsNeverLocked() {
        due.sentence("Promise 2", "-5 when it is protected, and locked by another unit");
        for (int kind = 0; kind < 4; kind += 2) {
            MonitorQueues x = new MonitorQueues(100);
            due.is("unit 5", x.put(2, kind, 1L, 5), 1);
            due.is("unit 6", x.put(2, kind, 1L, 6), 2);
            due.is("none", x.put(2, kind, 1L, 0), 3);
        }
    }

    private static void lockedAndNoUnit() {
        due.sentence("Promise 2", "(or unit is 0 and it is locked)");
        for (int kind = 1; kind < 4; kind += 2) {
            MonitorQueues x = new MonitorQueues(100);
            due.is("not locked", x.put(2, kind, 1L, 0), 1);
            due.is("unit 0 locks nothing", x.put(2, kind, 1L, 9), 2);
            int[] before = Due.counts(x);
            due.is("locked", x.put(2, kind, 1L, 0), -5);
            due.unchanged("no unit", x, before);
            x.unit(9, false);
            due.is("open again", x.put(2, kind, 1L, 0), 2);
        }
        MonitorQueues full = new MonitorQueues(1);
        full.put(0, 3, 1L, 1);
        due.is("before no room", full.put(0, 3, 1L, 0), -5);
    }

    private static void noRoom() {
        due.sentence("Promise 2", "NONE when there is no room");
        MonitorQueues x = new MonitorQueues(3);
        x.put(0, 0, 1L, 0);
        x.put(1, 2, 1L, 0);
        due.is("the last room, for a pending one", x.put(2, 3, 1L, 1), 1);
        int[] before = Due.counts(x);
        due.is("temporary", x.put(0, 0, 1L, 0), -1);
        due.is("transient", x.put(1, 2, 1L, 0), -1);
        due.is("the unit that locks it", x.put(2, 3, 1L, 1), -1);
        due.is("an empty one", x.put(31, 0, 1L, 0), -1);
        due.unchanged("no room", x, before);
        due.is("nothing became pending", x.unit(1, true), 1);
    }

    private static void roomAgain() {
        due.sentence("Promise 2", "NONE when there is no room");
        MonitorQueues x = new MonitorQueues(3);
        x.put(0, 0, 1L, 0);
        x.put(1, 2, 1L, 0);
        x.put(2, 3, 1L, 1);
        due.is("full", x.put(1, 2, 1L, 0), -1);
        x.take(1);
        due.is("room by take; no number was used up", x.put(1, 2, 1L, 0), 2);
        due.is("full again", x.put(1, 2, 1L, 0), -1);
        x.unit(1, false);
        due.is("room by a unit that went", x.put(1, 2, 1L, 0), 3);
        x.tick(1L);
        x.age(1L);
        due.is("room by age", x.put(1, 2, 1L, 0), 4);
        due.is("full at last", x.put(0, 0, 1L, 0), -1);
    }

    public static void main(String[] args) {
        behindTheOthers();
        allThatIsSo();
        noSuchQueue();
        noSuchKind();
        noSuchUnit();
        notSoComesFirst();
        anotherKind();
        lockedByAnotherUnit();
        notProtectedIsNeverLocked();
        lockedAndNoUnit();
        noRoom();
        roomAgain();
        due.finish();
    }
}
