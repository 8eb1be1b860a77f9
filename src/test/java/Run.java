import java.lang.reflect.Method;
import java.lang.reflect.Modifier;
import java.util.HashMap;
import java.util.Map;

/** A run of calls on a new object, each written as the document writes it: "set(1, 0, 9)"; MIN and MAX are an int's. */
final class Run {
    /** So many calls an object is used for; what later ones answer is free. */
    static final int MOST_CALLS = 512;

    private static final Map<String, Method> FACE = face();

    private final OpenWhileItRains x = new OpenWhileItRains();
    private final Edges edges;
    private int calls;

    Run(Edges edges) {
        this.edges = edges;
    }

    private static Map<String, Method> face() {
        Map<String, Method> face = new HashMap<>();
        for (Method method : OpenWhileItRains.class.getDeclaredMethods()) {
            if (Modifier.isPublic(method.getModifiers())) {
                face.put(method.getName(), method);
            }
        }
        return face;
    }

    long call(String call) {
        calls++;
        if (calls > MOST_CALLS) {
            throw new IllegalStateException("a test asks more than " + MOST_CALLS + " calls: " + call);
        }
        int open = call.indexOf('(');
        String[] words = call.substring(open + 1, call.length() - 1).split(",");
        Object[] numbers = new Object[words[0].isBlank() ? 0 : words.length];
        for (int i = 0; i < numbers.length; i++) {
            numbers[i] = number(words[i].strip());
        }
        try {
            return ((Number) FACE.get(call.substring(0, open)).invoke(x, numbers)).longValue();
        } catch (ReflectiveOperationException thrown) {
            throw new IllegalStateException(call + " has thrown", thrown);
        }
    }

    private static int number(String word) {
        switch (word) {
            case "MIN": return Integer.MIN_VALUE;
            case "MAX": return Integer.MAX_VALUE;
            default: return Integer.parseInt(word);
        }
    }

    /** The call must answer this. */
    void due(String call, long want) {
        edges.is(call, call(call), want);
    }

    /** Each of the answers is due to the call with 0, 1, .. in place of the #. */
    void dueEach(String call, long... wants) {
        for (int i = 0; i < wants.length; i++) {
            due(call.replace("#", String.valueOf(i)), wants[i]);
        }
    }

    /** RAIN of a STREET, a digit an HOUR; where a digit is missing, it stays. */
    void rain(int street, String digits) {
        for (int h = 0; h < digits.length(); h++) {
            call("set(1, " + (100 * street + h) + ", " + digits.charAt(h) + ")");
        }
    }

    void feed(String tape) {
        for (int i = 0; i < tape.length(); i++) {
            call("feed(" + (int) tape.charAt(i) + ")");
        }
    }

    /** What text() answers of that tape. */
    long text(String tape) {
        feed(tape);
        return call("text()");
    }

    /** Makes a new TEXT THE RULE. */
    void rule(String needs, String takes, String value) {
        long text = text("needs " + needs + ";takes " + takes + ";value " + value + ";");
        edges.is("the text's number is no refusal", text > 0 ? 1 : 0, 1);
        call("force(" + text + ")");
    }

    /** A SHEET of a sort with these numbers. */
    void sheet(int sheet, int sort, int... items) {
        call("sheet(" + sheet + ", " + sort + ", " + items.length + ")");
        for (int i = 0; i < items.length; i++) {
            call("cell(" + sheet + ", " + i + ", " + items[i] + ")");
        }
    }
}
