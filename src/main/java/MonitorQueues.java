import java.util.ArrayList;
import java.util.Arrays;
import java.util.NoSuchElementException;

/** Queues, delays, tasks and units of a transaction monitor; README.md tells how to use them. */
public final class MonitorQueues {
    public static final int NONE = -1;

    private static final int NOT_SO = -2;
    private static final int OTHER_KIND = -3;
    private static final int NO_SUCH = -4;
    private static final int LOCKED = -5;

    private static final int QUEUES = 32;
    private static final int KINDS = 4;
    private static final int FIRST_TRANSIENT_KIND = 2;
    private static final int UNITS = 9;
    private static final int NO_UNIT = 0;
    private static final int NO_TASK = 0;
    private static final int READERS = 8;
    private static final int MOST_ITEMS = 4096;
    private static final int MOST_WAITING = 200;

    private static final int WHAT_KINDS = QUEUES;
    private static final int WHAT_ALL_ITEMS = WHAT_KINDS + QUEUES;
    private static final int WHAT_TASKS_BEGUN = WHAT_ALL_ITEMS + 1;
    private static final int WHAT_TASKS_GOING = WHAT_ALL_ITEMS + 2;
    private static final int WHAT_DELAYS_WAITING = WHAT_ALL_ITEMS + 3;

    private final int room;
    private final Queue[] queues;
    private final ArrayList<Task> tasks;
    // Kept in the order in which they will be posted: by time, then by number.
    private final ArrayList<Delay> waiting;
    private int tasksGoing;
    private int lastDelay;
    private long now;

    public MonitorQueues(int room) {
        this.room = Math.max(1, Math.min(room, MOST_ITEMS));
        this.queues = new Queue[QUEUES];
        for (int i = 0; i < QUEUES; i++) {
            this.queues[i] = new Queue();
        }
        this.tasks = new ArrayList<Task>();
        this.waiting = new ArrayList<Delay>();
    }

    public int put(int queue, int kind, long v, int unit) {
        if (!isQueue(queue) || kind < 0 || kind >= KINDS || unit < NO_UNIT || unit > UNITS) {
            return NOT_SO;
        }
        Queue q = queues[queue];
        if (!q.admits(kind)) {
            return OTHER_KIND;
        }
        if (q.isLocked() && q.holder != unit) {
            return LOCKED;
        }
        if (allItems() >= room) {
            return NONE;
        }
        q.touch(now);
        int number = q.append(kind, v, unit);
        lookAtTriggers();
        return number;
    }

    public long get(int queue, int item) throws NoSuchElementException {
        if (!isQueue(queue)) {
            throw new NoSuchElementException("no such queue");
        }
        Queue q = queues[queue];
        if (q.isTemporary()) {
            if (!q.holds(item)) {
                throw new NoSuchElementException("no such item");
            }
            q.touch(now);
            return q.items.get(item - 1).value;
        }
        // The queue may have lost its kind by that very take, so an empty one is asked too.
        if (q.takenNumber == 0 || item != q.takenNumber) {
            throw new NoSuchElementException("not the item taken latest");
        }
        return q.takenValue;
    }

    public int next(int queue, int reader) {
        if (!isQueue(queue) || reader < 0 || reader >= READERS) {
            return NOT_SO;
        }
        Queue q = queues[queue];
        if (q.isTransient()) {
            return OTHER_KIND;
        }
        int item = q.places[reader] + 1;
        if (!q.holds(item)) {
            return NO_SUCH;
        }
        q.places[reader] = item;
        q.touch(now);
        return item;
    }

    public int take(int queue) {
        if (!isQueue(queue)) {
            return NOT_SO;
        }
        Queue q = queues[queue];
        if (q.isTemporary()) {
            return OTHER_KIND;
        }
        if (q.items.isEmpty()) {
            return NO_SUCH;
        }
        if (q.standing() == 0) {
            return LOCKED;
        }
        int number = q.removeFirst();
        lookAtTriggers();
        return number;
    }

    public int trigger(int queue, int count, int code) {
        if (!isQueue(queue) || count < 0 || count > MOST_ITEMS) {
            return NOT_SO;
        }
        Queue q = queues[queue];
        if (q.isTemporary()) {
            return OTHER_KIND;
        }
        q.trigger = count == 0 ? null : new Trigger(count, code);
        lookAtTriggers();
        return 1;
    }

    public int started(int i) {
        return isTask(i) ? tasks.get(i - 1).code : 0;
    }

    public int end(int task) {
        if (!isTask(task)) {
            return NO_SUCH;
        }
        Task ended = tasks.get(task - 1);
        if (!ended.goes) {
            return NO_SUCH;
        }
        ended.goes = false;
        tasksGoing--;
        int again = beginAgain(task);
        lookAtTriggers();
        return again;
    }

    public int rewrite(int queue, int item, long v) {
        if (!isQueue(queue)) {
            return NOT_SO;
        }
        Queue q = queues[queue];
        if (q.isTransient()) {
            return OTHER_KIND;
        }
        if (!q.holds(item)) {
            return NO_SUCH;
        }
        q.items.get(item - 1).value = v;
        q.touch(now);
        return 1;
    }

    public int delay(int code, long until) {
        if (waiting.size() >= MOST_WAITING) {
            return NONE;
        }
        lastDelay++;
        keepWaiting(new Delay(lastDelay, code, until));
        postDue();
        return lastDelay;
    }

    public int cancel(int delay) {
        for (int i = 0; i < waiting.size(); i++) {
            if (waiting.get(i).number == delay) {
                waiting.remove(i);
                return 1;
            }
        }
        return 0;
    }

    public int tick(long t) {
        if (t < now) {
            return NONE;
        }
        now = t;
        return postDue();
    }

    public int unit(int unit, boolean commits) {
        if (unit <= NO_UNIT || unit > UNITS) {
            return NOT_SO;
        }
        int ended = 0;
        for (int i = 0; i < queues.length; i++) {
            Queue q = queues[i];
            if (q.isLocked() && q.holder == unit) {
                ended += q.endPending(commits);
            }
        }
        lookAtTriggers();
        return ended;
    }

    public int age(long before) {
        int aged = 0;
        for (int i = 0; i < queues.length; i++) {
            Queue q = queues[i];
            if (q.isTemporary() && !q.isLocked() && q.lastUse < before) {
                q.becomeEmpty();
                aged++;
            }
        }
        return aged;
    }

    public int count(int what) {
        if (isQueue(what)) {
            return queues[what].items.size();
        }
        if (what >= WHAT_KINDS && isQueue(what - WHAT_KINDS)) {
            return queues[what - WHAT_KINDS].kind;
        }
        switch (what) {
            case WHAT_ALL_ITEMS:
                return allItems();
            case WHAT_TASKS_BEGUN:
                return tasks.size();
            case WHAT_TASKS_GOING:
                return tasksGoing;
            case WHAT_DELAYS_WAITING:
                return waiting.size();
            default:
                return NOT_SO;
        }
    }

    private boolean isQueue(int queue) {
        return queue >= 0 && queue < queues.length;
    }

    private boolean isTask(int task) {
        return task >= 1 && task <= tasks.size();
    }

    private int allItems() {
        int sum = 0;
        for (int i = 0; i < queues.length; i++) {
            sum += queues[i].items.size();
        }
        return sum;
    }

    private int begin(int code) {
        tasks.add(new Task(code));
        tasksGoing++;
        return tasks.size();
    }

    private int beginFor(Trigger trigger) {
        trigger.task = begin(trigger.code);
        trigger.takenSince = false;
        return trigger.task;
    }

    // Looking twice begins nothing new, so only calls that can change something look.
    private void lookAtTriggers() {
        for (int i = 0; i < queues.length; i++) {
            Trigger trigger = queues[i].trigger;
            if (trigger != null) {
                look(trigger, queues[i].standing());
            }
        }
    }

    private void look(Trigger trigger, int standing) {
        if (standing < trigger.needed) {
            trigger.ready = true;
        } else if (trigger.ready && trigger.task == NO_TASK) {
            beginFor(trigger);
            trigger.ready = false;
        }
    }

    // A task whose trigger was replaced is found nowhere here: it ends for itself.
    private int beginAgain(int ended) {
        for (int i = 0; i < queues.length; i++) {
            Trigger trigger = queues[i].trigger;
            if (trigger != null && trigger.task == ended) {
                trigger.task = NO_TASK;
                boolean again = !trigger.takenSince && queues[i].standing() > 0;
                return again ? beginFor(trigger) : NO_TASK;
            }
        }
        return NO_TASK;
    }

    private void keepWaiting(Delay delay) {
        int at = waiting.size();
        // Only later times are passed: of equal times the lower number stays in front.
        while (at > 0 && waiting.get(at - 1).until > delay.until) {
            at--;
        }
        waiting.add(at, delay);
    }

    private int postDue() {
        int posted = 0;
        while (posted < MOST_WAITING && !waiting.isEmpty() && waiting.get(0).until <= now) {
            begin(waiting.remove(0).code);
            posted++;
        }
        return posted;
    }

    private static final class Item {
        long value;

        Item(long value) {
            this.value = value;
        }
    }

    private static final class Task {
        final int code;
        boolean goes;

        Task(int code) {
            this.code = code;
            this.goes = true;
        }
    }

    private static final class Delay {
        final int number;
        final int code;
        final long until;

        Delay(int number, int code, long until) {
            this.number = number;
            this.code = code;
            this.until = until;
        }
    }

    private static final class Trigger {
        final int needed;
        final int code;
        boolean ready;
        int task;
        boolean takenSince;

        Trigger(int needed, int code) {
            this.needed = needed;
            this.code = code;
            this.ready = true;
        }
    }

    private static final class Queue {
        final ArrayList<Item> items;
        final int[] places;
        int kind;
        // While a unit holds the queue nobody else may put, so its items are the last ones.
        int pending;
        // The unit that they belong to; it says nothing while there are none.
        int holder;
        long lastUse;
        // The number of the latest transient item; it outlives the kind.
        int lastNumber;
        int takenNumber;
        long takenValue;
        Trigger trigger;

        Queue() {
            this.items = new ArrayList<Item>();
            this.places = new int[READERS];
            this.kind = NONE;
        }

        static boolean isTransientKind(int kind) {
            return kind >= FIRST_TRANSIENT_KIND;
        }

        static boolean isProtectedKind(int kind) {
            return kind == 1 || kind == 3;
        }

        boolean isTransient() {
            return kind != NONE && isTransientKind(kind);
        }

        boolean isTemporary() {
            return kind != NONE && !isTransientKind(kind);
        }

        boolean isLocked() {
            return pending > 0;
        }

        int standing() {
            return items.size() - pending;
        }

        boolean holds(int item) {
            return item >= 1 && item <= items.size();
        }

        boolean admits(int wanted) {
            if (kind != NONE) {
                return kind == wanted;
            }
            return trigger == null || isTransientKind(wanted);
        }

        void touch(long time) {
            lastUse = time;
        }

        int append(int wanted, long value, int unit) {
            kind = wanted;
            items.add(new Item(value));
            if (isProtectedKind(kind) && unit != NO_UNIT) {
                holder = unit;
                pending++;
            }
            if (!isTransient()) {
                return items.size();
            }
            lastNumber++;
            return lastNumber;
        }

        int removeFirst() {
            if (items.isEmpty()) {
                return NO_SUCH;
            }
            takenNumber = lastNumber - items.size() + 1;
            takenValue = items.get(0).value;
            items.remove(0);
            if (trigger != null) {
                trigger.takenSince = true;
            }
            if (items.isEmpty()) {
                becomeEmpty();
            }
            return takenNumber;
        }

        int endPending(boolean stand) {
            int ended = pending;
            pending = 0;
            if (!stand) {
                dropLast(ended);
            }
            return ended;
        }

        void dropLast(int some) {
            if (isTransient()) {
                lastNumber -= some;
            }
            for (int left = some; left > 0 && !items.isEmpty(); left--) {
                items.remove(items.size() - 1);
            }
            if (items.isEmpty()) {
                becomeEmpty();
            }
        }

        void becomeEmpty() {
            items.clear();
            Arrays.fill(places, 0);
            kind = NONE;
        }
    }
}
