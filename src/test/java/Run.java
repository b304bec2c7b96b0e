import java.lang.reflect.InvocationTargetException;
import java.lang.reflect.Method;
import java.nio.charset.StandardCharsets;
import java.util.ArrayList;
import java.util.HashMap;
import java.util.List;
import java.util.Map;

/**
 * A run of calls written as text, such as "cab(0, 10)", to be played on new objects again and
 * again. No step changes a Run: each makes a longer one.
 */
final class Run {
    private static final int MOST_CALLS = 512;
    private static final Map<String, Call> READ = new HashMap<>();

    private record Call(Method method, Object[] arguments) { }

    private final List<String> calls;

    private Run(List<String> calls) {
        this.calls = calls;
    }

    static Run onNew() {
        return new Run(List.of());
    }

    static Run inCity(String text) {
        return onNew().city(text);
    }

    /** Calls that must be taken: one that is refused is a fault of the test. */
    Run then(String... more) {
        List<String> all = new ArrayList<>(calls);
        for (String some : more) {
            all.addAll(split(some));
        }
        return new Run(all);
    }

    Run times(int many, String more) {
        Run longer = this;
        for (int k = 0; k < many; k++) {
            longer = longer.then(more);
        }
        return longer;
    }

    /** The text is this one alone then. */
    Run text(String text) {
        byte[] bytes = text.getBytes(StandardCharsets.ISO_8859_1);
        Run longer = then("end(0)");
        for (int from = 0; from < bytes.length; from += 20) {
            int[] n = new int[5];
            for (int k = 0; k < 20; k++) {
                n[k / 4] = n[k / 4] << 8 | (from + k < bytes.length ? bytes[from + k] & 255 : 32);
            }
            longer = longer.then("feed(" + n[0] + ", " + n[1] + ", " + n[2] + ", " + n[3] + ", " + n[4] + ")");
        }
        return longer.then("end(" + bytes.length + ")");
    }

    Run city(String text) {
        return text(text).then("city()");
    }

    /** So many CABS of ZONE 0 more, which STAND at a RANK at once, that being its place. */
    Run standing(int many, int rank, int place) {
        int first = 0;
        for (String call : calls) {
            first += call.startsWith("cab(") ? 1 : 0;
        }
        Run longer = this;
        for (int cab = first; cab < first + many; cab++) {
            longer = longer.then("cab(0, " + place + "); drive(" + cab + ", " + rank + ")");
        }
        return longer;
    }

    int size() {
        return calls.size();
    }

    Played play() {
        Played played = new Played();
        for (String call : calls) {
            int answer = played.ask(call);
            if (answer == -1 || answer == 0 && read(call).method.getReturnType() == boolean.class) {
                throw new IllegalStateException("a test's own call is refused: " + call + " in " + calls);
            }
        }
        return played;
    }

    static List<String> split(String calls) {
        List<String> all = new ArrayList<>();
        for (String call : calls.split(";")) {
            if (!call.isBlank()) {
                all.add(call.trim());
            }
        }
        return all;
    }

    private static Call read(String call) {
        return READ.computeIfAbsent(call, Run::readNew);
    }

    private static Call readNew(String call) {
        int open = call.indexOf('(');
        String inside = call.substring(open + 1, call.length() - 1).trim();
        String[] words = inside.isEmpty() ? new String[0] : inside.split(",");
        Object[] arguments = new Object[words.length];
        for (int k = 0; k < words.length; k++) {
            arguments[k] = number(words[k].trim());
        }
        for (Method method : CabRanks.class.getMethods()) {
            if (method.getName().equals(call.substring(0, open)) && method.getParameterCount() == words.length) {
                return new Call(method, arguments);
            }
        }
        throw new IllegalArgumentException("no such call: " + call);
    }

    static int number(String word) {
        switch (word) {
            case "NONE":
            case "-1": return -1;
            case "MIN": return Integer.MIN_VALUE;
            case "MAX": return Integer.MAX_VALUE;
            case "true": return 1;
            case "false": return 0;
            default: return word.startsWith("0x") ? Integer.parseUnsignedInt(word.substring(2), 16) : Integer.parseInt(word);
        }
    }

    /** An object on which a Run was played, and which is asked no more than it promises to answer. */
    static final class Played {
        private final CabRanks x = new CabRanks();
        private int asked = 0;

        CabRanks object() {
            return x;
        }

        int ask(String call) {
            asked++;
            if (asked > MOST_CALLS) {
                throw new IllegalStateException("more than 512 calls on one object");
            }
            Call read = read(call);
            try {
                Object answer = read.method.invoke(x, read.arguments);
                return answer instanceof Boolean b ? b ? 1 : 0 : (Integer) answer;
            } catch (IllegalAccessException | InvocationTargetException e) {
                throw new IllegalStateException(call + " threw " + e.getCause(), e);
            }
        }

        int[] ask(List<String> calls) {
            int[] answers = new int[calls.size()];
            for (int k = 0; k < answers.length; k++) {
                answers[k] = ask(calls.get(k));
            }
            return answers;
        }
    }
}
