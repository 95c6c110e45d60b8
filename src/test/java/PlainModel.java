import java.util.ArrayList;
import java.util.List;
import java.util.NoSuchElementException;
import java.util.TreeMap;

/**
 * The document once more, written for comparison: each item knows its number and its unit, nothing is kept in an
 * order that saves work, and all triggers are looked at behind each call.
 */
final class PlainModel {
    private record Item(int number, long[] value, int[] unit) {
        boolean pending() {
            return unit[0] != 0;
        }
    }

    private static final class Trigger {
        int count;
        int code;
        boolean ready = true;
        int task;
        int takesAtBeginning;
    }

    private static final class Queue {
        final List<Item> items = new ArrayList<>();
        final int[] places = new int[8];
        int kindOfItems = -1;
        int transientItemsEver;
        int takes;
        Item taken;
        long used;
        Trigger trigger;

        int kind() {
            return items.isEmpty() ? -1 : kindOfItems;
        }

        boolean temporary() {
            return kind() == 0 || kind() == 1;
        }

        boolean isTransient() {
            return kind() == 2 || kind() == 3;
        }

        Item find(int number) {
            return items.stream().filter(i -> i.number() == number).findFirst().orElse(null);
        }

        int lockedBy() {
            return items.stream().filter(Item::pending).mapToInt(i -> i.unit()[0]).findFirst().orElse(0);
        }

        int standing() {
            return (int) items.stream().filter(i -> !i.pending()).count();
        }

        void placesWhenEmpty() {
            for (int reader = 0; items.isEmpty() && reader < 8; reader++) {
                places[reader] = 0;
            }
        }
    }

    private final int room;
    private final Queue[] queues = new Queue[32];
    private final List<Integer> codes = new ArrayList<>();
    private final List<Boolean> goes = new ArrayList<>();
    private final TreeMap<Integer, long[]> waiting = new TreeMap<>();
    private int delays;
    private long time;

    PlainModel(int room) {
        this.room = room < 1 ? 1 : room > 4096 ? 4096 : room;
        for (int i = 0; i < 32; i++) {
            queues[i] = new Queue();
        }
    }

    private static boolean within(int low, int x, int high) {
        return low <= x && x <= high;
    }

    private int begin(int code) {
        codes.add(code);
        goes.add(true);
        return codes.size();
    }

    private int begin(Queue q) {
        q.trigger.task = begin(q.trigger.code);
        q.trigger.takesAtBeginning = q.takes;
        return q.trigger.task;
    }

    private long behind(long answer) {
        for (Queue q : queues) {
            if (q.trigger == null) {
                continue;
            }
            boolean going = q.trigger.task != 0 && goes.get(q.trigger.task - 1);
            q.trigger.ready |= q.standing() < q.trigger.count;
            if (q.trigger.ready && !going && q.standing() >= q.trigger.count) {
                begin(q);
                q.trigger.ready = false;
            }
        }
        return answer;
    }

    long put(int queue, int kind, long v, int unit) {
        if (!within(0, queue, 31) || !within(0, kind, 3) || !within(0, unit, 9)) {
            return behind(-2);
        }
        Queue q = queues[queue];
        if (q.kind() != -1 && q.kind() != kind || q.kind() == -1 && q.trigger != null && kind < 2) {
            return behind(-3);
        }
        if (q.lockedBy() != 0 && q.lockedBy() != unit) {
            return behind(-5);
        }
        if (count(64) >= room) {
            return behind(-1);
        }
        q.kindOfItems = kind;
        q.transientItemsEver += kind >= 2 ? 1 : 0;
        int number = kind >= 2 ? q.transientItemsEver : q.items.size() + 1;
        q.items.add(new Item(number, new long[] {v}, new int[] {kind % 2 == 1 ? unit : 0}));
        q.used = time;
        return behind(number);
    }

    long get(int queue, int item) {
        if (!within(0, queue, 31)) {
            throw new NoSuchElementException();
        }
        Queue q = queues[queue];
        Item found = q.temporary() ? q.find(item) : q.taken != null && q.taken.number() == item ? q.taken : null;
        if (found == null) {
            throw new NoSuchElementException();
        }
        q.used = time;
        return behind(found.value()[0]);
    }

    long next(int queue, int reader) {
        if (!within(0, queue, 31) || !within(0, reader, 7)) {
            return behind(-2);
        }
        Queue q = queues[queue];
        if (q.isTransient()) {
            return behind(-3);
        }
        Item found = q.find(q.places[reader] + 1);
        if (found == null) {
            return behind(-4);
        }
        q.used = time;
        q.places[reader]++;
        return behind(found.number());
    }

    long take(int queue) {
        if (!within(0, queue, 31)) {
            return behind(-2);
        }
        Queue q = queues[queue];
        if (q.temporary()) {
            return behind(-3);
        }
        if (q.items.isEmpty()) {
            return behind(-4);
        }
        if (q.items.get(0).pending()) {
            return behind(-5);
        }
        q.taken = q.items.remove(0);
        q.takes++;
        return behind(q.taken.number());
    }

    long trigger(int queue, int count, int code) {
        if (!within(0, queue, 31) || !within(0, count, 4096)) {
            return behind(-2);
        }
        if (queues[queue].temporary()) {
            return behind(-3);
        }
        queues[queue].trigger = null;
        if (count > 0) {
            queues[queue].trigger = new Trigger();
            queues[queue].trigger.count = count;
            queues[queue].trigger.code = code;
        }
        return behind(1);
    }

    long started(int i) {
        return behind(within(1, i, codes.size()) ? codes.get(i - 1) : 0);
    }

    long end(int task) {
        if (!within(1, task, codes.size()) || !goes.get(task - 1)) {
            return behind(-4);
        }
        goes.set(task - 1, false);
        for (Queue q : queues) {
            if (q.trigger != null && q.trigger.task == task && q.trigger.takesAtBeginning == q.takes
                    && q.standing() > 0) {
                return behind(begin(q));
            }
        }
        return behind(0);
    }

    long rewrite(int queue, int item, long v) {
        if (!within(0, queue, 31)) {
            return behind(-2);
        }
        Queue q = queues[queue];
        if (q.isTransient()) {
            return behind(-3);
        }
        if (q.find(item) == null) {
            return behind(-4);
        }
        q.find(item).value()[0] = v;
        q.used = time;
        return behind(1);
    }

    private int post() {
        int posted = 0;
        while (true) {
            int earliest = 0;
            for (int number : waiting.keySet()) {
                boolean due = waiting.get(number)[1] <= time;
                if (due && (earliest == 0 || waiting.get(number)[1] < waiting.get(earliest)[1])) {
                    earliest = number;
                }
            }
            if (earliest == 0) {
                return posted;
            }
            begin((int) waiting.remove(earliest)[0]);
            posted++;
        }
    }

    long delay(int code, long until) {
        if (waiting.size() == 200) {
            return behind(-1);
        }
        delays++;
        waiting.put(delays, new long[] {code, until});
        post();
        return behind(delays);
    }

    long cancel(int delay) {
        return behind(waiting.remove(delay) == null ? 0 : 1);
    }

    long tick(long t) {
        if (t < time) {
            return behind(-1);
        }
        time = t;
        return behind(post());
    }

    long unit(int unit, boolean commits) {
        if (!within(1, unit, 9)) {
            return behind(-2);
        }
        int ended = 0;
        for (Queue q : queues) {
            for (Item item : List.copyOf(q.items)) {
                if (item.unit()[0] == unit) {
                    ended++;
                    item.unit()[0] = 0;
                    if (!commits) {
                        q.transientItemsEver -= q.isTransient() ? 1 : 0;
                        q.items.remove(item);
                        q.placesWhenEmpty();
                    }
                }
            }
        }
        return behind(ended);
    }

    long age(long before) {
        int aged = 0;
        for (Queue q : queues) {
            if (q.temporary() && q.lockedBy() == 0 && !(q.used >= before)) {
                q.items.clear();
                q.placesWhenEmpty();
                aged++;
            }
        }
        return behind(aged);
    }

    long count(int what) {
        if (within(0, what, 31)) {
            return queues[what].items.size();
        }
        if (within(32, what, 63)) {
            return queues[what - 32].kind();
        }
        int all = 0;
        for (Queue q : queues) {
            all += q.items.size();
        }
        int going = 0;
        for (boolean g : goes) {
            going += g ? 1 : 0;
        }
        return what == 64 ? all : what == 65 ? codes.size() : what == 66 ? going : what == 67 ? waiting.size() : -2;
    }
}
