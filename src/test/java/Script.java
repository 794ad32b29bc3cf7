import java.lang.reflect.InvocationTargetException;
import java.lang.reflect.Method;
import java.util.HashMap;
import java.util.List;
import java.util.Map;

/**
 * Runs calls that are written as text, each sentence of the document on a new object.
 *
 * <p>Calls stand on lines, or are parted by semicolons:
 * {@code track(4) = 0} the answer that is due; {@code track(-1) = SIZE} FOUND, by that FINDING; {@code track(4)} any
 * answer but BAD, FOUND and FULL; {@code 24 x track(4)} as often, where an argument may be i, i/n, i%n;
 * {@code trace = 2 1} the whole TRACE; {@code remember} and, later, {@code unchanged}: all that can be asked is the
 * same; {@code anew} a new object.
 */
final class Script {
    private static final int MOST_CALLS = 512;
    private static final List<String> FINDINGS = List.of("", "NOTHING", "NOT_SUCH", "BEYOND", "STORE", "SIZE", "ZERO",
            "NONE_HELD", "HELD", "TAKEN", "CLOSED", "LOCKED", "UNDER", "BARRED", "COUPLED", "WEAK", "RUNS", "UNTESTED");
    private static final Map<String, Integer> NUMBERS = Map.of("BAD", SwitchYard.BAD, "FOUND", SwitchYard.FOUND,
            "FULL", SwitchYard.FULL, "NONE", SwitchYard.NONE, "MIN", Integer.MIN_VALUE, "MAX", Integer.MAX_VALUE);
    private static final Map<String, Method> CALLS = new HashMap<>();

    static {
        for (Method method : SwitchYard.class.getDeclaredMethods()) {
            if (java.lang.reflect.Modifier.isPublic(method.getModifiers())) {
                CALLS.put(method.getName(), method);
            }
        }
    }

    private final Due due = new Due();
    private SwitchYard yard = new SwitchYard();
    private String remembered = "";
    private int calls = 0;

    /** What a sentence of the document says, by calls on a new object. */
    void sentence(String promise, String words, String lines) {
        due.of(promise + " \"" + words + "\"");
        renew();
        for (String line : lines.split("[;\n]")) {
            if (!line.isBlank()) {
                work(line.strip());
            }
        }
        due.is("more calls than the document promises answers for", calls > MOST_CALLS ? calls : 0, 0);
    }

    private void renew() {
        yard = new SwitchYard();
        calls = 0;
    }

    /** The same calls once for each value of the letter that stands for it. */
    void each(String promise, String words, String lines, String letter, String... values) {
        for (String value : values) {
            sentence(promise, words, lines.replaceAll("\\b" + letter + "\\b", value));
        }
    }

    void end() {
        due.end();
    }

    private void work(String line) {
        if (line.equals("anew")) {
            renew();
        } else if (line.equals("remember")) {
            remembered = all();
        } else if (line.equals("unchanged")) {
            boolean same = remembered.equals(all());
            due.is("unchanged: " + (same ? "" : remembered + " became " + all()), same ? 1 : 0, 1);
        } else if (line.startsWith("trace =")) {
            String bodies = line.substring(7).strip();
            due.trace(yard, bodies.isEmpty() ? new int[0]
                    : java.util.Arrays.stream(bodies.split(" +")).mapToInt(Integer::parseInt).toArray());
        } else if (line.contains(" x ")) {
            String[] parts = line.split(" x ");
            for (int i = 0; i < Integer.parseInt(parts[0]); i++) {
                callAndLook(parts[1], i);
            }
        } else {
            callAndLook(line, 0);
        }
    }

    private void callAndLook(String line, int i) {
        String[] parts = line.split(" = ");
        String call = parts[0].strip();
        long got = answer(call, i);
        if (parts.length == 1) {
            boolean went = got != SwitchYard.BAD && got != SwitchYard.FOUND && got != SwitchYard.FULL;
            due.is(call + " does what it should, " + got + " that", went ? 1 : 0, 1);
            return;
        }
        String want = parts[1].strip();
        int kind = FINDINGS.indexOf(want);
        if (kind > 0) {
            due.found(call, yard, got, kind);
        } else {
            due.is(call, got, number(want, i));
        }
    }

    private long answer(String call, int i) {
        int open = call.indexOf('(');
        Method method = CALLS.get(call.substring(0, open).strip());
        String inner = call.substring(open + 1, call.lastIndexOf(')')).strip();
        String[] texts = inner.isEmpty() ? new String[0] : inner.split(" *, *");
        Object[] arguments = new Object[texts.length];
        for (int k = 0; k < texts.length; k++) {
            boolean isFlag = method.getParameterTypes()[k] == boolean.class;
            arguments[k] = isFlag ? (Object) Boolean.valueOf(texts[k]) : (Object) (int) number(texts[k], i);
        }
        calls++;
        try {
            return ((Number) method.invoke(yard, arguments)).longValue();
        } catch (IllegalAccessException | InvocationTargetException e) {
            throw new IllegalStateException(call, e);
        }
    }

    private static long number(String text, int i) {
        if (NUMBERS.containsKey(text)) {
            return NUMBERS.get(text);
        }
        if (!text.startsWith("i")) {
            return Long.parseLong(text);
        }
        int by = text.length() > 2 ? Integer.parseInt(text.substring(2)) : 1;
        return text.length() == 1 ? i : text.charAt(1) == '/' ? i / by : text.charAt(1) == '%' ? i % by : i + by;
    }

    /** What calls can tell of a yard but for FINDINGS, TRACE, what is kept, and plans. */
    private String all() {
        StringBuilder all = new StringBuilder();
        all.append(yard.digest());
        for (int k = -7; k <= 0; k++) {
            all.append(' ').append(answer("count(" + k + ")", 0));
        }
        for (int thing = 0; thing < yard.count(-1); thing++) {
            all.append(' ').append(answer("thing(" + thing + ", 6)", 0));
            all.append(' ').append(answer("ask(" + thing + ", 0)", 0));
        }
        for (int point = 0; point < yard.count(-6); point++) {
            all.append(' ').append(answer("pointed(" + point + ", 2)", 0));
        }
        for (int i = 0; i < 8; i++) {
            all.append(' ').append(answer("rolled(" + i + ")", 0));
        }
        return all.toString();
    }
}
