import java.lang.reflect.InvocationTargetException;
import java.lang.reflect.Method;
import java.util.ArrayList;
import java.util.Arrays;
import java.util.Collections;
import java.util.HashMap;
import java.util.List;
import java.util.Map;

/**
 * A run of calls on a new object, each told as text ("lot 0 1 500 500 2 100 0"). Every answer
 * comes from an object of its own, so that no object is ever used past the document's bound.
 */
final class Run {
    static final int MOST_CALLS = 512;
    private static final Map<String, Method> METHODS = methods();

    private final List<String> calls;

    private Run(List<String> calls) {
        if (calls.size() > MOST_CALLS) {
            throw new IllegalArgumentException(calls.size() + " calls on one object");
        }
        this.calls = calls;
    }

    static Run of(String... calls) {
        return new Run(List.of()).then(calls);
    }

    /** This run, and more calls behind it; a text may hold several calls, parted by ';'. */
    Run then(String... more) {
        List<String> all = new ArrayList<>(calls);
        for (String text : more) {
            for (String call : text.split(";")) {
                all.add(call.trim());
            }
        }
        return new Run(all);
    }

    Run times(int n, String call) {
        return n == 0 ? this : then(Collections.nCopies(n, call).toArray(new String[0]));
    }

    /** What one more call answers; a boolean counts 1 or 0. */
    long answer(String call) {
        return answers(List.of(call)).get(0);
    }

    /** What questions answer behind this run, on as many new objects as the bound of use asks. */
    List<Long> answers(List<String> questions) {
        if (calls.size() >= MOST_CALLS) {
            throw new IllegalArgumentException("no call is left for a question");
        }
        List<Long> got = new ArrayList<>();
        JettisonDesk desk = null;
        int used = MOST_CALLS;
        for (String question : questions) {
            if (used == MOST_CALLS) {
                desk = replayed();
                used = calls.size();
            }
            got.add(answerOf(desk, question));
            used++;
        }
        return got;
    }

    private JettisonDesk replayed() {
        JettisonDesk desk = new JettisonDesk();
        for (String call : calls) {
            answerOf(desk, call);
        }
        return desk;
    }

    static boolean isBoolean(String call) {
        return method(call.split(" ")[0]).getReturnType() == boolean.class;
    }

    private static long answerOf(JettisonDesk desk, String call) {
        String[] words = call.split(" ");
        Object[] args = Arrays.stream(words).skip(1).map(Integer::valueOf).toArray();
        try {
            Object got = method(words[0]).invoke(desk, args);
            return got instanceof Boolean yes ? (yes ? 1 : 0) : (Integer) got;
        } catch (IllegalAccessException | InvocationTargetException e) {
            throw new IllegalStateException(call, e);
        }
    }

    private static Method method(String name) {
        Method found = METHODS.get(name);
        if (found == null) {
            throw new IllegalArgumentException("no method " + name);
        }
        return found;
    }

    private static Map<String, Method> methods() {
        Map<String, Method> all = new HashMap<>();
        for (Method method : JettisonDesk.class.getDeclaredMethods()) {
            all.put(method.getName(), method);
        }
        return all;
    }

    /** The calls, like ones behind one another told once. */
    @Override
    public String toString() {
        StringBuilder text = new StringBuilder();
        for (int k = 0; k < calls.size(); k++) {
            int first = k;
            while (k + 1 < calls.size() && calls.get(k + 1).equals(calls.get(first))) {
                k++;
            }
            text.append(text.isEmpty() ? "" : "; ").append(calls.get(k));
            text.append(k == first ? "" : " (" + (k - first + 1) + " times)");
        }
        return text.toString();
    }
}
