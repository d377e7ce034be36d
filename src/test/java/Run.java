import java.lang.reflect.InvocationTargetException;
import java.lang.reflect.Method;
import java.util.HashMap;
import java.util.Map;

/** One new object and the calls on it, told as text: "wall(0, 1, true) = 1; count(3) = 1". */
final class Run {
    private static final int MISSING = -2;
    private static final Map<String, Method> METHODS = new HashMap<>();
    private static final Map<String, Long> NUMBERS = new HashMap<>();

    static {
        for (Method method : Place.class.getDeclaredMethods()) {
            METHODS.put(method.getName(), method);
        }
        NUMBERS.put("NONE", -1L);
        NUMBERS.put("BAD", -2L);
        NUMBERS.put("NOT", -3L);
        NUMBERS.put("FULL", -4L);
        NUMBERS.put("NULL", -11L);
        NUMBERS.put("INDEX", -12L);
        NUMBERS.put("CAST", -13L);
        NUMBERS.put("STORE", -14L);
        NUMBERS.put("SIZE", -15L);
        NUMBERS.put("MIN", (long) Integer.MIN_VALUE);
        NUMBERS.put("MAX", (long) Integer.MAX_VALUE);
    }

    private final Check check;
    private final Place x = new Place();

    Run(Check check) {
        this.check = check;
    }

    /** Calls by lines or parted by ";", each with the answer that is due; what stands behind # tells why. */
    Run calls(String lines) {
        for (String line : lines.split("\n")) {
            for (String told : line.replaceAll("#.*", "").split(";")) {
                if (!told.isBlank()) {
                    String[] halves = told.split(" = ");
                    due(halves[0].trim(), number(halves[1].trim()));
                }
            }
        }
        return this;
    }

    Run due(String call, long want) {
        check.due(call, ask(call), want);
        return this;
    }

    /** Calls by lines or parted by ";", whose answers are of no matter here. */
    Run prepared(String lines) {
        for (String line : lines.split("\n")) {
            for (String call : line.replaceAll("#.*", "").split(";")) {
                if (!call.isBlank()) {
                    ask(call.trim());
                }
            }
        }
        return this;
    }

    /** A new SHEET of shorts with these ROWS; the SENDERS of which none tells are MISSING. */
    Run rows(int s, int[]... rows) {
        ask("sheet(" + s + ", 1, " + 8 * rows.length + ")");
        for (int i = 0; i < 8 * rows.length; i++) {
            int[] row = rows[i / 8];
            int heard = i % 8 < row.length ? row[i % 8] : MISSING;
            if (heard != 0) {
                ask("lay(" + s + ", 1, " + i + ", " + heard + ")");
            }
        }
        return this;
    }

    /** How many calls its object may still be asked. */
    int left() {
        return x.left();
    }

    /** What a call answers; a call that throws is a fault of its own. */
    long ask(String call) {
        int open = call.indexOf('(');
        String inner = call.substring(open + 1, call.length() - 1);
        String[] told = inner.isEmpty() ? new String[0] : inner.split(", ");
        Object[] values = new Object[told.length];
        for (int i = 0; i < told.length; i++) {
            boolean isTruth = told[i].equals("true") || told[i].equals("false");
            values[i] = isTruth ? (Object) Boolean.valueOf(told[i]) : (Object) (int) number(told[i]);
        }
        try {
            return ((Number) METHODS.get(call.substring(0, open)).invoke(x, values)).longValue();
        } catch (InvocationTargetException thrown) {
            check.that(call + " throws " + thrown.getCause(), false);
            return Long.MIN_VALUE;
        } catch (IllegalAccessException hidden) {
            throw new IllegalStateException(hidden);
        }
    }

    private static long number(String told) {
        Long named = NUMBERS.get(told);
        return named != null ? named : Long.parseLong(told);
    }
}
