import java.io.IOException;
import java.nio.charset.StandardCharsets;
import java.nio.file.Files;
import java.nio.file.Path;
import java.util.NoSuchElementException;

/**
 * Compares answers with those that are due, each under the sentence of the document that asks for it, prints the
 * others with that sentence, and ends a test with exit code 1 if there was one.
 */
final class Due {
    private static final Path DOCUMENT = Path.of("../shared/DOC.md");

    private final String document = document();
    private String sentence = "";
    private int sentences = 0;
    private int seenOfSentence = 0;
    private int seen = 0;
    private int wrong = 0;

    Due() {
        // The machine's own exceptions end a test too; then it is due to say which sentence it was at.
        Thread.setDefaultUncaughtExceptionHandler((thread, thrown) -> {
            complain("threw " + thrown);
            thrown.printStackTrace();
        });
    }

    private static String document() {
        try {
            return Files.exists(DOCUMENT) ? Files.readString(DOCUMENT, StandardCharsets.UTF_8) : null;
        } catch (IOException e) {
            return null;
        }
    }

    /** What follows tests this sentence of that section of the document: "Promise 2", "Terms". */
    void sentence(String section, String words) {
        closeSentence();
        sentence = section + ", '" + words + "'";
        sentences++;
        // A quotation that the document does not have would name a promise that nobody made.
        if (document != null && !partOf(section).contains(words)) {
            complain("the document has no such sentence there");
        }
    }

    private String partOf(String section) {
        for (String part : document.split("(?m)^## ")) {
            if (part.startsWith(section + ":") || part.startsWith(section + "\n")) {
                return part;
            }
        }
        return "";
    }

    private void closeSentence() {
        if (sentences > 0 && seenOfSentence == 0) {
            complain("nothing was tested");
        }
        seenOfSentence = 0;
    }

    private void complain(String what) {
        wrong++;
        System.out.println(sentence + ": " + what);
    }

    void is(String call, long got, long want) {
        seen++;
        seenOfSentence++;
        if (got != want) {
            complain(call + " answered " + got + ", due is " + want);
        }
    }

    void isTrue(String what, boolean got) {
        is(what + " (1 yes, 0 no)", got ? 1 : 0, 1);
    }

    void item(String call, MonitorQueues x, int queue, int item, long want) {
        try {
            is(call, x.get(queue, item), want);
        } catch (NoSuchElementException e) {
            is(call + ": throws (1 NoSuchElementException, 0 nothing)", 1, 0);
        }
    }

    void noItem(String call, MonitorQueues x, int queue, int item) {
        int thrown = 0;
        try {
            x.get(queue, item);
        } catch (NoSuchElementException e) {
            thrown = 1;
        }
        is(call + ": throws (1 NoSuchElementException, 0 nothing)", thrown, 1);
    }

    /** All that count tells, in 68 calls: to be compared behind calls that are refused. */
    static int[] counts(MonitorQueues x) {
        int[] counts = new int[68];
        for (int what = 0; what < counts.length; what++) {
            counts[what] = x.count(what);
        }
        return counts;
    }

    void unchanged(String calls, MonitorQueues x, int[] before) {
        for (int what = 0; what < before.length; what++) {
            is("count(" + what + ") behind " + calls, x.count(what), before[what]);
        }
    }

    /** The numbers next to a range, and the farthest ones. */
    static int[] outside(int low, int high) {
        return new int[] {low - 1, high + 1, Integer.MIN_VALUE, Integer.MAX_VALUE};
    }

    boolean allRight() {
        return wrong == 0;
    }

    void finish() {
        closeSentence();
        if (seen == 0) {
            System.out.println("nothing was tested");
            System.exit(1);
        }
        if (wrong != 0) {
            System.out.println(wrong + " of " + seen + " answers are not as due");
            System.exit(1);
        }
        System.out.println("all " + seen + " answers are as due, in " + sentences + " tests of sentences");
    }
}
