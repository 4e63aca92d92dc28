import java.io.IOException;
import java.util.ArrayList;
import java.util.Arrays;
import java.util.List;

/**
 * Tries the sentences of the document one after another. A wrong answer is told with the promise or
 * the term and the sentence that asks for another one.
 */
final class Trial {
    private final Checks checks;
    private final Document document;
    private String part = "";
    private String sentence = "";
    private Run run = new Run();
    /** What the run has led to, until it goes on. */
    private List<String> state;

    Trial(String title, String from) throws IOException {
        checks = new Checks(title);
        document = new Document(from);
    }

    // The document.

    /** The promise or the term that the next sentences belong to. */
    void part(String name) {
        part = name;
    }

    /** A promise, with its number and name and its face, that the next sentences belong to. */
    void promise(String name, String face) {
        part("Promise " + name);
        plain("## Promise " + name + " " + face + ":");
    }

    /** Words of the document that name no boundary of their own. */
    void plain(String words) {
        if (!document.goesOnWith(words)) {
            checks.dueText(part + ": the document goes on", document.next(), words);
        }
    }

    /** A sentence of the document that is tried by the calls that follow. */
    void sentence(String words) {
        plain(words);
        sentence = words;
        given();
    }

    /** The document goes on with these words, which another test goes through. */
    void end(String words) {
        plain(words);
        checks.end();
    }

    /** The document has no more words. */
    void endOfDocument() {
        if (!document.isDone()) {
            checks.dueText(part + ": the document goes on", document.next(), "");
        }
        checks.end();
    }

    // Calls.

    /** Begins a new object with these calls, which are only there to lead somewhere. */
    void given(String... calls) {
        run = new Run();
        then(calls);
    }

    /** The object that there is goes on with calls that are only there to lead somewhere. */
    void then(String... calls) {
        state = null;
        for (String call : calls) {
            run.call(call);
        }
    }

    /** Calls behind the promised ones: nothing is asked but that they answer. */
    void free(String... calls) {
        state = null;
        for (String call : calls) {
            run.freeCall(call);
        }
    }

    /** Each of the calls has this answer. */
    void is(Object answer, String... calls) {
        state = null;
        for (String call : calls) {
            due(call, run.call(call), answer);
        }
    }

    /** Each of the calls is refused with this answer, and nothing has changed then. */
    void refused(Object answer, String... calls) {
        for (String call : calls) {
            if (state == null) {
                state = State.after(run);
            }
            due(call, run.call(call), answer);
            dueLines("after " + call, State.after(run), state);
        }
    }

    /** The call has this answer, and of all that can be seen only lines with these beginnings may change. */
    void isOnly(Object answer, String call, String... beginnings) {
        List<String> before = without(State.after(run), beginnings);
        is(answer, call);
        dueLines("after " + call, without(State.after(run), beginnings), before);
    }

    private static List<String> without(List<String> lines, String... beginnings) {
        List<String> kept = new ArrayList<>(lines);
        for (String beginning : beginnings) {
            kept.removeIf(line -> line.startsWith(beginning));
        }
        return kept;
    }

    private void dueLines(String call, List<String> got, List<String> want) {
        for (int k = 0; k < Math.max(got.size(), want.size()); k++) {
            due(call, line(got, k), line(want, k));
        }
    }

    private static String line(List<String> lines, int k) {
        return k < lines.size() ? lines.get(k) : "nothing more";
    }

    private void due(String call, Object got, Object want) {
        checks.dueText(part + ": \"" + sentence + "\" [" + run.length() + " calls] " + call,
            String.valueOf(got), String.valueOf(want));
    }

    /** An answer that was had from an object of the test's own. */
    void isSo(String call, Object got, Object want) {
        due(call, got, want);
    }

    // What several calls tell together.

    /** The delta has these operations, each told as "code object ..", and no more. */
    void isDelta(String... operations) {
        for (int k = 0; k < operations.length; k++) {
            isRow("operation " + k + " ", GraphDeltas.NONE, operations[k]);
        }
        is(GraphDeltas.NONE, "operation " + operations.length + " 0");
    }

    /** Calls with 0, 1, .. at their end answer these numbers, and then that there is no more. */
    private void isRow(String call, Object none, String numbers) {
        String[] words = numbers.isEmpty() ? new String[0] : numbers.split(" ");
        for (int k = 0; k < words.length; k++) {
            is(words[k], call + k);
        }
        is(none, call + words.length);
    }

    void isDraft(int... bytes) {
        isRow("byteAt ", GraphDeltas.BAD, words(bytes));
    }

    void isConflicts(int... numbers) {
        isRow("conflict ", GraphDeltas.BAD, words(numbers));
    }

    /** The LIST o of the live graph has these items. */
    void isList(int o, int... items) {
        is(1 + items.length, "kind " + o);
        isRow("value " + o + " ", GraphDeltas.NONE, words(items));
    }

    private static String words(int... numbers) {
        List<String> words = new ArrayList<>();
        for (int number : numbers) {
            words.add(String.valueOf(number));
        }
        return String.join(" ", words);
    }

    // Drafts.

    /** 68, these bytes, 0 and the sum. */
    static int[] closed(int... middle) {
        int[] bytes = new int[middle.length + 3];
        bytes[0] = 68;
        System.arraycopy(middle, 0, bytes, 1, middle.length);
        bytes[bytes.length - 1] = Arrays.stream(bytes).sum() % 256;
        return bytes;
    }

    /** The draft becomes these bytes. */
    void fed(int... bytes) {
        is(true, "cut 0");
        for (int b : bytes) {
            is(true, "feed " + b);
        }
    }

    /** After the calls, these bytes between 68 and 0 are read as the operations, and written again. */
    void isRead(String[] calls, int[] middle, String... operations) {
        given(calls);
        fed(closed(middle));
        is(operations.length, "decode");
        isDelta(operations);
        isDraft(closed(middle));
        is(middle.length + 3, "encode");
        isDraft(closed(middle));
    }

    /** After the calls, these bytes between 68 and 0 are refused. */
    void isMalformed(String[] calls, int... middle) {
        given(calls);
        fed(closed(middle));
        refused(GraphDeltas.MALFORMED, "decode");
    }

    /** After the calls, the delta of these bytes is applied to version v and gives this version. */
    void isApplied(String[] calls, int v, int result, int... middle) {
        decoded(calls, middle);
        is(result, "apply " + v);
    }

    /** After the calls, the delta of these bytes does not fit version v. */
    void isMisfit(String[] calls, int v, int... middle) {
        decoded(calls, middle);
        refused(GraphDeltas.MISFIT, "apply " + v);
    }

    private void decoded(String[] calls, int... middle) {
        given(calls);
        fed(closed(middle));
        boolean isRead = (Integer) run.call("decode") >= 0;
        due("decode", isRead, true);
    }
}
