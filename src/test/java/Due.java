import java.util.NoSuchElementException;

/** Compares answers with those that are due, prints the others, and ends a test with exit code 1 if there was one. */
final class Due {
    private int wrong = 0;
    private int seen = 0;

    void is(String call, long got, long want) {
        seen++;
        if (got != want) {
            wrong++;
            System.out.println(call + " answered " + got + ", due is " + want);
        }
    }

    void item(String call, MonitorQueues x, int queue, int item, long want) {
        try {
            is(call, x.get(queue, item), want);
        } catch (NoSuchElementException e) {
            is(call + ": throws (1 NoSuchElementException, 0 nothing)", 1, 0);
        }
    }

    void noItem(String call, MonitorQueues x, int queue, int item) {
        int thrown = 0;
        try {
            x.get(queue, item);
        } catch (NoSuchElementException e) {
            thrown = 1;
        }
        is(call + ": throws (1 NoSuchElementException, 0 nothing)", thrown, 1);
    }

    void finish() {
        if (seen == 0) {
            System.out.println("nothing was tested");
            System.exit(1);
        }
        if (wrong != 0) {
            System.out.println(wrong + " of " + seen + " answers are not as due");
            System.exit(1);
        }
        System.out.println("all " + seen + " answers are as due");
    }
}
