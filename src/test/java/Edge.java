import java.io.IOException;
import java.nio.charset.StandardCharsets;
import java.nio.file.Files;
import java.nio.file.Path;
import java.util.function.IntFunction;

/** What the tests Edge..Test share: each sentence of the document that names a boundary case has a test of its own. */
final class Edge {
    private static final String DOCUMENT = readDocument();

    private Edge() {
    }

    /** The sentence's words must stand in the document; its test looks at the boundary and beside it. */
    static void of(String sentence, Runnable test) {
        Check.about("");
        if (!DOCUMENT.isEmpty()) {
            Check.is("the document has '" + sentence + "'", DOCUMENT.contains(sentence), true);
        }
        Check.about("'" + sentence + "': ");
        int before = Check.asked();
        try {
            test.run();
        } catch (RuntimeException e) {
            Check.is("the test", "threw " + e, "no exception");
        }
        Check.is("more than one answer looked at", Check.asked() - before > 1, true);
        if (Boolean.getBoolean("sentences")) {
            System.out.println("SENTENCE " + sentence);
        }
    }

    /** The least and the greatest number are taken, those beside them and the farthest ones are refused. */
    static void bounds(String what, int least, int most, Class<? extends RuntimeException> refusal,
            IntFunction<Object> call) {
        for (int n : new int[] {least, most}) {
            taken(what + " of " + n, () -> call.apply(n));
        }
        for (int n : new int[] {least - 1, most + 1, Integer.MIN_VALUE, Integer.MAX_VALUE}) {
            Check.fails(what + " of " + n, refusal, () -> call.apply(n));
        }
    }

    static void bounds(String what, int least, int most, IntFunction<Object> call) {
        bounds(what, least, most, IllegalArgumentException.class, call);
    }

    static void numbered(String what, int size, IntFunction<Object> call) {
        bounds(what, 0, size - 1, IndexOutOfBoundsException.class, call);
    }

    static void whats(String what, int last, IntFunction<Object> call) {
        bounds(what, 0, last, java.util.NoSuchElementException.class, call);
    }

    static void taken(String what, Check.Call call) {
        Object got = "taken";
        try {
            call.run();
        } catch (RuntimeException e) {
            got = e;
        }
        Check.is(what, got, "taken");
    }

    /** So that a call without an answer can be asked like the others. */
    static Object did(Runnable call) {
        call.run();
        return "nothing";
    }

    private static String readDocument() {
        Path path = Path.of(System.getProperty("project", "."), "..", "shared", "DOC.md");
        try {
            return Files.exists(path) ? Files.readString(path, StandardCharsets.UTF_8).replaceAll("\\s+", " ") : "";
        } catch (IOException e) {
            return "";
        }
    }
}
