/** Promise 1: A new object. */
public final class NewObjectTest {
    private static final Due due = new Due();

    private static void holds(int room, int want) {
        MonitorQueues x = new MonitorQueues(room);
        for (int i = 1; i <= want; i++) {
            due.isTrue("room " + room + ": put " + i + " has room", x.put(i % 32, 0, i, 0) >= 1);
        }
        due.is("room " + room + ": put beyond", x.put(0, 0, 0L, 0), -1);
        due.is("room " + room + ": count(64)", x.count(64), want);
    }

    private static void holdsWhatAllCallsPut(int room) {
        MonitorQueues x = new MonitorQueues(room);
        for (int i = 1; i <= 512; i++) {
            due.is("room " + room + ": put " + i, x.put(7, 2, i, 0), i);
        }
    }

    private static void atMostSoMany() {
        due.sentence("Promise 1", "At most so many items: 1 .. 4096");
        holds(1, 1);
        holds(2, 2);
        holds(33, 33);
        holds(510, 510);
        // The 4097th item would be put by a call behind the 512th, of which nothing is promised.
        holdsWhatAllCallsPut(512);
        holdsWhatAllCallsPut(4095);
        holdsWhatAllCallsPut(4096);
    }

    private static void tooSmallIsHeldToOne() {
        due.sentence("Promise 1", "(numbers outside are held to these)");
        holds(0, 1);
        holds(-1, 1);
        holds(-4096, 1);
        holds(Integer.MIN_VALUE, 1);
    }

    private static void tooLargeIsHeldToTheMost() {
        due.sentence("Promise 1", "(numbers outside are held to these)");
        holdsWhatAllCallsPut(4097);
        holdsWhatAllCallsPut(8192);
        holdsWhatAllCallsPut(Integer.MAX_VALUE);
    }

    private static void newAndEmpty() {
        due.sentence("Promise 1", "A new object");
        MonitorQueues x = new MonitorQueues(5);
        for (int q = 0; q < 32; q++) {
            due.is("items of " + q, x.count(q), 0);
            due.is("kind of " + q, x.count(32 + q), -1);
        }
        for (int what = 64; what < 68; what++) {
            due.is("count(" + what + ")", x.count(what), 0);
        }
    }

    private static void stateOfItsOwn() {
        due.sentence("Promise 1", "A new object");
        MonitorQueues one = new MonitorQueues(5);
        MonitorQueues other = new MonitorQueues(1);
        one.put(0, 0, 1L, 0);
        one.trigger(1, 1, 5);
        one.delay(6, 0L);
        one.delay(6, 99L);
        one.tick(9L);
        due.is("items of another one", other.count(64), 0);
        due.is("tasks of another one", other.count(65), 0);
        due.is("delays of another one", other.count(67), 0);
        due.is("time of another one", other.tick(3L), 0);
        due.is("triggers of another one", other.put(1, 0, 1L, 0), 1);
        due.is("room of another one", other.put(1, 0, 1L, 0), -1);
        due.is("room of the first one", one.put(1, 2, 1L, 0), 1);
    }

    private static void answersTillTheLastCall() {
        due.sentence("What it is", "An object is used for at most 512 calls after it has been made");
        MonitorQueues tasks = new MonitorQueues(1);
        for (int i = 1; i <= 510; i++) {
            due.is("delay " + i, tasks.delay(i, 0L), i);
        }
        due.is("call 511", tasks.count(66), 510);
        due.is("call 512", tasks.started(510), 510);
        MonitorQueues delays = new MonitorQueues(1);
        for (int i = 1; i <= 255; i++) {
            due.is("delay " + i, delays.delay(i, 7L), i);
            due.is("cancel " + i, delays.cancel(i), 1);
        }
        due.is("call 511", delays.count(67), 0);
        due.is("call 512", delays.delay(5, 7L), 256);
    }

    public static void main(String[] args) {
        atMostSoMany();
        tooSmallIsHeldToOne();
        tooLargeIsHeldToTheMost();
        newAndEmpty();
        stateOfItsOwn();
        answersTillTheLastCall();
        due.finish();
    }
}
