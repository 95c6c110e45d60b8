/** The document's terms of queues, units and readers, on which promises 1 to 5, 9 and 13 to 15 stand. */
public final class QueueTermsTest {
    private static final Due due = new Due();

    private static void queues() {
        due.sentence("Terms", "QUEUES are 0 .. 31.");
        MonitorQueues x = new MonitorQueues(100);
        for (int q = 0; q < 32; q += 31) {
            due.is("put into " + q, x.put(q, 0, 5L + q, 0), 1);
            due.item("get of " + q, x, q, 1, 5L + q);
            due.is("next of " + q, x.next(q, 0), 1);
            due.is("rewrite of " + q, x.rewrite(q, 1, 6L), 1);
        }
        x.age(1L);
        for (int q = 0; q < 32; q += 31) {
            due.is("trigger of " + q, x.trigger(q, 1, 5), 1);
            due.is("put into " + q, x.put(q, 2, 5L, 0), 1);
            due.is("take of " + q, x.take(q), 1);
        }
        int[] others = {-1, 32};
        for (int q : others) {
            due.is("put into " + q, x.put(q, 0, 5L, 0), -2);
            due.noItem("get of " + q, x, q, 1);
            due.is("next of " + q, x.next(q, 0), -2);
            due.is("rewrite of " + q, x.rewrite(q, 1, 6L), -2);
            due.is("trigger of " + q, x.trigger(q, 1, 5), -2);
            due.is("take of " + q, x.take(q), -2);
        }
    }

    private static void emptyHasNoKind() {
        due.sentence("Terms", "An empty one has no KIND; the first put gives it one");
        MonitorQueues x = new MonitorQueues(100);
        due.is("new", x.count(36), -1);
        x.put(4, 0, 1L, 0);
        due.is("by its first put", x.count(36), 0);
        x.tick(1L);
        x.age(1L);
        due.is("aged", x.count(36), -1);
        x.put(4, 1, 1L, 3);
        due.is("by its first put again, of a unit", x.count(36), 1);
        x.unit(3, false);
        due.is("gone with a unit", x.count(36), -1);
        x.put(4, 2, 1L, 0);
        x.put(4, 2, 1L, 0);
        x.take(4);
        due.is("one is left", x.count(36), 2);
        x.take(4);
        due.is("all taken", x.count(36), -1);
        x.put(4, 3, 1L, 0);
        due.is("any kind behind any other", x.count(36), 3);
    }

    private static void refusedGivesNoKind() {
        due.sentence("Terms", "An empty one has no KIND; the first put gives it one");
        MonitorQueues x = new MonitorQueues(1);
        x.put(4, 4, 1L, 0);
        x.put(4, 0, 1L, 10);
        due.is("a refused put gives none", x.count(36), -1);
        x.put(0, 0, 1L, 0);
        x.put(4, 0, 1L, 0);
        due.is("a put without room gives none", x.count(36), -1);
    }

    private static void kinds() {
        due.sentence("Terms", "0 temporary, 1 temporary and protected, 2 transient, 3 transient and protected");
        MonitorQueues x = new MonitorQueues(100);
        for (int kind = 0; kind < 4; kind++) {
            x.put(kind, kind, 1L, 8);
            due.is("next of kind " + kind, x.next(kind, 0), kind < 2 ? 1 : -3);
            due.is("put of no unit into kind " + kind, x.put(kind, kind, 2L, 0), kind % 2 == 0 ? 2 : -5);
        }
        int[] takes = {-3, -3, 1, -5};
        for (int kind = 0; kind < 4; kind++) {
            due.is("take of kind " + kind, x.take(kind), takes[kind]);
        }
    }

    private static void temporaryNumbers() {
        due.sentence("Terms", "A temporary one's items are 1, 2, ..");
        MonitorQueues x = new MonitorQueues(100);
        for (int i = 1; i <= 40; i++) {
            due.is("item " + i, x.put(4, 0, i, 0), i);
        }
        x.tick(1L);
        x.age(1L);
        due.is("from 1 again when it was empty", x.put(4, 0, 1L, 0), 1);
        x.put(5, 1, 1L, 0);
        x.put(5, 1, 2L, 1);
        x.unit(1, false);
        due.is("behind those that are there", x.put(5, 1, 3L, 0), 2);
        due.item("its value", x, 5, 2, 3L);
    }

    private static void transientNumbers() {
        due.sentence("Terms",
                "a transient one's have numbers that go on from its first item ever (1), whatever was taken");
        MonitorQueues x = new MonitorQueues(100);
        x.put(4, 2, 1L, 0);
        x.put(4, 2, 2L, 0);
        x.take(4);
        due.is("behind a taken one", x.put(4, 2, 3L, 0), 3);
        due.is("the second", x.take(4), 2);
        due.is("the third", x.take(4), 3);
        due.is("empty: no kind", x.count(36), -1);
        due.is("they go on behind that", x.put(4, 3, 4L, 0), 4);
        due.is("the fourth", x.take(4), 4);
        due.is("another queue has numbers of its own", x.put(5, 2, 6L, 0), 1);
    }

    private static void temporaryBetween() {
        due.sentence("Terms",
                "a transient one's have numbers that go on from its first item ever (1), whatever was taken");
        MonitorQueues x = new MonitorQueues(100);
        x.put(4, 2, 1L, 0);
        x.take(4);
        due.is("temporary begins at 1", x.put(4, 0, 5L, 0), 1);
        due.is("temporary goes on at 2", x.put(4, 0, 5L, 0), 2);
        x.tick(1L);
        x.age(1L);
        due.is("transient again goes on", x.put(4, 2, 6L, 0), 2);
        x.put(5, 0, 1L, 0);
        x.tick(2L);
        x.age(2L);
        due.is("temporary ones are not counted", x.put(5, 2, 6L, 0), 1);
    }

    private static void numbersUsedAgain() {
        due.sentence("Terms", "(numbers of items that went with a unit are used again)");
        MonitorQueues x = new MonitorQueues(100);
        x.put(4, 3, 1L, 0);
        due.is("pending 2", x.put(4, 3, 2L, 1), 2);
        due.is("pending 3", x.put(4, 3, 3L, 1), 3);
        x.unit(1, false);
        due.is("2 again", x.put(4, 3, 4L, 0), 2);
        x.take(4);
        x.take(4);
        due.is("3 again", x.put(4, 3, 5L, 2), 3);
        x.unit(2, false);
        due.is("3 again in a queue that became empty", x.put(4, 2, 6L, 0), 3);
        due.is("the first item ever", x.put(6, 3, 6L, 2), 1);
        x.unit(2, false);
        due.is("1 again", x.put(6, 3, 6L, 2), 1);
        x.unit(2, true);
        due.is("one that stands keeps its number", x.put(6, 3, 6L, 0), 2);
    }

    private static void room() {
        due.sentence("Terms", "In all there are at most room items.");
        MonitorQueues x = new MonitorQueues(32);
        for (int q = 0; q < 32; q++) {
            due.is("one in queue " + q, x.put(q, q % 4, 1L, q % 4 == 0 ? 0 : 3), 1);
        }
        for (int q = 0; q < 32; q++) {
            due.is("one more in queue " + q, x.put(q, q % 4, 1L, 3), -1);
        }
        due.is("in all", x.count(64), 32);
    }

    private static void units() {
        due.sentence("Terms", "UNITS are 1 .. 9, 0 is none.");
        MonitorQueues x = new MonitorQueues(100);
        for (int unit = 0; unit <= 9; unit++) {
            due.is("put of unit " + unit, x.put(unit, 1, 1L, unit), 1);
        }
        due.is("what none put is not pending: put of unit 9", x.put(0, 1, 1L, 9), 2);
        due.is("unit 0 can't end", x.unit(0, false), -2);
        for (int unit = 1; unit <= 9; unit++) {
            due.is("unit " + unit + " ends", x.unit(unit, false), unit == 9 ? 2 : 1);
        }
        due.is("that of none is there", x.count(64), 1);
    }

    private static void pendingAndLocked() {
        due.sentence("Terms", "An item that is put into a protected queue by a unit is PENDING till the unit ends:"
                + " the queue is LOCKED by it.");
        for (int kind = 0; kind < 4; kind++) {
            boolean guarded = kind % 2 == 1;
            MonitorQueues x = new MonitorQueues(100);
            x.put(2, kind, 1L, 5);
            due.is("kind " + kind + ": another unit", x.put(2, kind, 1L, 6), guarded ? -5 : 2);
            due.is("kind " + kind + ": how many are pending", x.unit(5, true), guarded ? 1 : 0);
            due.is("kind " + kind + ": another unit then", x.put(2, kind, 1L, 6), guarded ? 2 : 3);
        }
    }

    private static void readAndRewritten() {
        due.sentence("Terms", "Pending items are among the items (they can be read, rewritten)");
        MonitorQueues x = new MonitorQueues(100);
        x.put(2, 1, 1L, 5);
        due.is("among the queue's", x.count(2), 1);
        due.is("among all", x.count(64), 1);
        due.item("get", x, 2, 1, 1L);
        due.is("next", x.next(2, 0), 1);
        due.is("rewrite", x.rewrite(2, 1, 9L), 1);
        due.item("get", x, 2, 1, 9L);
        due.is("it is pending still", x.unit(5, false), 1);
    }

    private static void notTakenNotCounted() {
        due.sentence("Terms", "but for transient ones they can't be taken, and don't count for triggers");
        MonitorQueues x = new MonitorQueues(100);
        x.trigger(2, 1, 7);
        x.put(2, 3, 1L, 5);
        due.is("they are there", x.count(2), 1);
        due.is("they can't be taken", x.take(2), -5);
        due.is("no task", x.count(65), 0);
        x.unit(5, true);
        due.is("a task when they stand", x.started(1), 7);
        due.is("they can be taken then", x.take(2), 1);
    }

    private static void readers() {
        due.sentence("Terms", "READERS are 0 .. 7: each has a place in each temporary queue, 0 at first");
        MonitorQueues x = new MonitorQueues(100);
        for (int q = 0; q < 32; q += 31) {
            x.put(q, q % 2, 1L, 0);
            x.put(q, q % 2, 2L, 0);
        }
        for (int reader = 0; reader < 8; reader++) {
            due.is("queue 0, reader " + reader, x.next(0, reader), 1);
            due.is("queue 31, reader " + reader, x.next(31, reader), 1);
        }
        for (int reader = 7; reader >= 0; reader--) {
            due.is("queue 31, reader " + reader, x.next(31, reader), 2);
            due.is("queue 0, reader " + reader, x.next(0, reader), 2);
        }
    }

    private static void placesOfAnEmptyOne() {
        due.sentence("Terms", "and when that becomes empty");
        MonitorQueues x = new MonitorQueues(100);
        x.put(0, 0, 1L, 0);
        x.put(0, 0, 2L, 0);
        for (int reader = 0; reader < 8; reader++) {
            x.next(0, reader);
        }
        x.next(0, 3);
        x.tick(1L);
        x.age(1L);
        x.put(0, 1, 3L, 6);
        for (int reader = 0; reader < 8; reader++) {
            due.is("aged: reader " + reader, x.next(0, reader), 1);
        }
        x.unit(6, false);
        x.put(0, 0, 4L, 0);
        for (int reader = 0; reader < 8; reader++) {
            due.is("gone with a unit: reader " + reader, x.next(0, reader), 1);
        }
    }

    private static void placesOfTheOthers() {
        due.sentence("Terms", "and when that becomes empty");
        MonitorQueues x = new MonitorQueues(100);
        for (int q = 0; q < 2; q++) {
            x.put(q, 1, 1L, 0);
            x.put(q, 1, 1L, 0);
            x.next(q, 0);
        }
        x.tick(1L);
        x.rewrite(1, 1, 2L);
        due.is("one becomes empty", x.age(1L), 1);
        due.is("the other one's place stays", x.next(1, 0), 2);
        x.put(1, 1, 1L, 7);
        x.unit(7, false);
        due.is("it stays when it does not become empty", x.next(1, 0), -4);
    }

    public static void main(String[] args) {
        queues();
        emptyHasNoKind();
        refusedGivesNoKind();
        kinds();
        temporaryNumbers();
        transientNumbers();
        temporaryBetween();
        numbersUsedAgain();
        room();
        units();
        pendingAndLocked();
        readAndRewritten();
        notTakenNotCounted();
        readers();
        placesOfAnEmptyOne();
        placesOfTheOthers();
        due.finish();
    }
}
