import java.lang.reflect.InvocationTargetException;
import java.lang.reflect.Method;
import java.util.HashMap;
import java.util.Map;

/** A new SunHouse, told calls as they are said ("set 0 1 50"), and the count of answers that were not due. */
final class Calls {
    /** In place of an answer: what the call threw. */
    static final long ARGUMENT = Long.MIN_VALUE;
    static final long STATE = Long.MIN_VALUE + 1;

    static final String LEAST = String.valueOf(Integer.MIN_VALUE);
    static final String GREATEST = String.valueOf(Integer.MAX_VALUE);

    private static final int MOST_CALLS = 512;
    private static final Map<String, Method> METHODS = new HashMap<>();
    private static int checks = 0;
    private static int wrong = 0;

    static {
        for (Method m : SunHouse.class.getMethods()) {
            METHODS.put(m.getName(), m);
        }
    }

    private final SunHouse house = new SunHouse();
    private final String name;
    private int calls = 0;

    /** The name is the document's sentence that is looked at. */
    Calls(String name) {
        this.name = name;
    }

    /** Ends the test: fails if there was a wrong answer. */
    static void end(String test) {
        System.out.println(test + ": " + checks + " checks, " + wrong + " wrong");
        System.exit(wrong == 0 ? 0 : 1);
    }

    static void check(String name, String what, long got, long want) {
        checks++;
        if (got != want) {
            wrong++;
            System.out.println(name + ": " + what + " answered " + said(got) + ", due is " + said(want));
        }
    }

    private static String said(long answer) {
        return answer == ARGUMENT ? "IllegalArgumentException" : answer == STATE ? "IllegalStateException" : "" + answer;
    }

    SunHouse house() {
        return house;
    }

    /** How many calls it was told. */
    int calls() {
        return calls;
    }

    long answer(String call) {
        if (++calls > MOST_CALLS) {
            throw new IllegalStateException("more calls than the document tells of: " + name);
        }
        String[] words = call.split(" ");
        Method method = METHODS.get(words[0]);
        Object[] told = new Object[words.length - 1];
        for (int i = 0; i < told.length; i++) {
            boolean truth = method.getParameterTypes()[i] == boolean.class;
            told[i] = truth ? (Object) words[i + 1].equals("true") : (Object) Integer.parseInt(words[i + 1]);
        }
        return answer(method, told);
    }

    private long answer(Method method, Object[] told) {
        try {
            return ((Number) method.invoke(house, told)).longValue();
        } catch (InvocationTargetException e) {
            if (e.getCause().getClass() == IllegalArgumentException.class) {
                return ARGUMENT;
            }
            if (e.getCause().getClass() == IllegalStateException.class) {
                return STATE;
            }
            throw new AssertionError(name + ": " + method.getName() + " throws what no call may throw", e.getCause());
        } catch (IllegalAccessException e) {
            throw new AssertionError(e);
        }
    }

    void due(String call, long want) {
        check(name, call, answer(call), want);
    }

    /** A call whose answer wants a word of its own. */
    void due(String what, long want, String call) {
        check(name, what + ", " + call, answer(call), want);
    }

    /** Each call is due to answer the same. */
    void dueEach(long want, String... told) {
        for (String call : told) {
            due(call, want);
        }
    }

    /** The same call with one number after another in place of #. */
    void dueRow(String call, int first, long... wants) {
        for (int i = 0; i < wants.length; i++) {
            due(call.replace("#", String.valueOf(first + i)), wants[i]);
        }
    }

    /** What the call answers of one PART in place of # is due of another. */
    void dueAlike(String call, int part, int other) {
        due(call.replace("#", String.valueOf(other)), answer(call.replace("#", String.valueOf(part))));
    }

    void tell(String... told) {
        for (String call : told) {
            answer(call);
        }
    }

    /** Puts a ROW of a SORT into a SHELF. */
    void lay(int d, int sort, int... values) {
        answer("row " + d + " " + sort + " " + values.length);
        for (int i = 0; i < values.length; i++) {
            if (values[i] != 0) {
                answer("put " + d + " " + i + " " + values[i]);
            }
        }
    }

    void layText(int d, String text) {
        int[] bytes = new int[text.length()];
        for (int i = 0; i < bytes.length; i++) {
            bytes[i] = text.charAt(i);
        }
        lay(d, 0, bytes);
    }

    /** Tells a TEXT, by way of SHELF 7. */
    long text(String text) {
        layText(7, text);
        return answer("text 7");
    }

    void dueText(String text, long want) {
        check(name, "text " + text, text(text), want);
    }

    /** A TEXT with a FAULT, of which no PART comes. */
    void fault(String text, long want) {
        long before = answer("count 0");
        dueText(text, want);
        due("count 0", before);
    }
}
