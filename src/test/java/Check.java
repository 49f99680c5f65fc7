import java.io.IOException;
import java.io.UncheckedIOException;
import java.nio.file.Files;
import java.nio.file.Path;

/** Counts what a test looked at and prints what is not as due. */
final class Check {
    /** A call whose answer, or whose exception, is looked at. */
    interface Call {
        long run();
    }

    private int passed = 0;
    private int failed = 0;
    private final String document = readDocument();
    private String sentence = "";

    /**
     * From here on it is looked at whether this sentence holds. It must stand in the document word by word, so
     * that no test outlives the words that it was written for.
     */
    void sentence(String words) {
        sentence = "";
        holds("the document says: " + words, document.isEmpty() || document.contains(words));
        sentence = "[" + words + "] ";
    }

    /** Without the document at hand the words are taken as they are. */
    private static String readDocument() {
        Path path = Path.of(System.getProperty("document", "../shared/DOC.md"));
        try {
            return Files.exists(path) ? Files.readString(path).replaceAll("\\s+", " ") : "";
        } catch (IOException none) {
            throw new UncheckedIOException(none);
        }
    }

    void due(String what, long want, long got) {
        if (want == got) {
            passed++;
        } else {
            fail(what, "answered " + got + ", due is " + want);
        }
    }

    private void fail(String what, String why) {
        failed++;
        System.out.println(sentence + what + ": " + why);
    }

    void holds(String what, boolean held) {
        due(what, 1, held ? 1 : 0);
    }

    void dueIndex(String what, Call call) {
        dueThrow(what, IndexOutOfBoundsException.class, call);
    }

    void dueArgument(String what, Call call) {
        dueThrow(what, IllegalArgumentException.class, call);
    }

    /** The exception must be of this very class: the machine's own are of classes below it. */
    private void dueThrow(String what, Class<?> want, Call call) {
        String got;
        try {
            got = "answered " + call.run();
        } catch (RuntimeException thrown) {
            if (thrown.getClass() == want) {
                passed++;
                return;
            }
            got = "threw " + thrown;
        }
        fail(what, got + ", due is " + want.getSimpleName());
    }

    /** Ends the test's program. */
    void end() {
        System.out.println(passed + " passed, " + failed + " failed");
        if (failed != 0 || passed == 0) {
            System.exit(1);
        }
    }
}
