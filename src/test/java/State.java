import java.util.ArrayList;
import java.util.List;

/** All that the calls of the face can tell of an object after a run, line by line. */
final class State {
    /** More than any delta, operation or other row has: so a look at a faulty object ends, too. */
    private static final int OPERATIONS = 130;
    private static final int CELLS = 15;
    private static final int ENTRIES = 1300;

    private final Run run;
    private final List<String> lines = new ArrayList<>();
    /** An object that has only been looked at since the run. */
    private Run seen;

    private State(Run run) {
        this.run = run;
        seen = run.again();
    }

    static List<String> after(Run run) {
        State state = new State(run);
        state.tellLive("live", null);
        state.tellVersions();
        state.tellRows();
        state.tellNumbers("node true");
        state.tellNumbers("node false");
        state.tellNumbers("snapshot");
        return state.lines;
    }

    /** Looking changes nothing, so a new object goes on where the calls of one are used up. */
    private Object look(String call, String first) {
        if (seen.length() == Run.PROMISED) {
            begin(first);
        }
        return seen.call(call);
    }

    private void begin(String first) {
        seen = run.again();
        if (first != null) {
            seen.call(first);
        }
    }

    private void tellLive(String title, String first) {
        for (int o = 0; o < 16; o++) {
            StringBuilder line = new StringBuilder(title + " object " + o);
            int kind = (Integer) look("kind " + o, first);
            line.append(" kind ").append(kind).append(':');
            int values = kind < 0 ? 0 : kind == 0 ? 3 : kind - 1;
            for (int k = 0; k < values; k++) {
                line.append(' ').append(look("value " + o + " " + k, first));
            }
            lines.add(line.toString());
        }
    }

    private void tellVersions() {
        for (int v = 0; v < 8; v++) {
            if ((Boolean) look("same " + v + " " + v, null)) {
                begin("restore " + v);
                tellLive("version " + v, "restore " + v);
                begin(null);
            } else {
                lines.add("no version " + v);
            }
        }
    }

    private void tellRows() {
        for (int k = 0; k < OPERATIONS && !none(look("operation " + k + " 0", null)); k++) {
            StringBuilder line = new StringBuilder("operation " + k + ":");
            Object cell = look("operation " + k + " 0", null);
            for (int w = 1; w < CELLS && !none(cell); w++) {
                line.append(' ').append(cell);
                cell = look("operation " + k + " " + w, null);
            }
            lines.add(line.toString());
        }
        tellRow("conflict");
        tellRow("byteAt");
    }

    private static boolean none(Object cell) {
        return (Long) cell == GraphDeltas.NONE;
    }

    private void tellRow(String call) {
        StringBuilder line = new StringBuilder(call + ":");
        Object cell = look(call + " 0", null);
        for (int k = 1; k < ENTRIES && (Integer) cell != GraphDeltas.BAD; k++) {
            line.append(' ').append(cell);
            cell = look(call + " " + k, null);
        }
        lines.add(line.toString());
    }

    /** What a call that gives numbers answers until it is refused. */
    private void tellNumbers(String call) {
        Run last = run.again();
        StringBuilder line = new StringBuilder(call + ":");
        int number = 0;
        for (int k = 0; k < 20 && number >= 0; k++) {
            number = (Integer) last.call(call);
            line.append(' ').append(number);
        }
        lines.add(line.toString());
    }
}
