import java.lang.reflect.InvocationTargetException;
import java.lang.reflect.Method;
import java.util.HashMap;
import java.util.Map;

/**
 * Each call with every pair of its numbers at, below and above their edges, on LessonDesk and on
 * PlainDesk: so what is refused for two reasons is told by the first, whichever two they are.
 */
public final class EdgePairsTest {
    private static final int[] TRIED = {
        Integer.MIN_VALUE, -1000, -999, -1, 0, 1, 2, 3, 4, 6, 7, 8, 9, 11, 12, 13, 14, 39, 40, 41, 160, 161, 200, 201,
        255, 256, 500, 999, 1000, 1001, 9999, 10000, Integer.MAX_VALUE
    };
    /** Calls that are not refused on a busy desk, to change two numbers of. */
    private static final Object[][] CALLS = {
        {"work", 52, 17, 3}, {"row", 52, 17, 3, 1}, {"could", 52, 17, 45}, {"least", 52, 17, 45, 1}, {"parts", 0, 1, 12},
        {"probe", 12, 2, 2, 0, 2}, {"answer", 0, 52, 17, 45}, {"answers", 1, 2, 2, 0, 1}, {"aside", 0, 1, true},
        {"set", 3, 50}, {"points", 0, 3}, {"guess", 0}, {"lead", 0}, {"count", 0, 3}, {"strange", 3},
        {"hint", 52, 17, 5, 1}, {"type", 0x6162636465666768L, 8}, {"skill", 1, 2}, {"exercise", 0, 1, 70, true},
        {"odds", 0, 1, 70}, {"again", 0, 1, 500}, {"way", 0, 70, 9, 0}, {"deal", 1, 7}, {"by", 0}, {"sheet", 3, 1, 5},
        {"drop", 1}, {"item", 1, 1, 2, 300}, {"copy", 2, 0, 2, 1, 3}
    };
    private static final Object[][] BUSY = {
        {"learner"}, {"learner"}, {"answer", 0, 52, 17, 45}, {"answer", 0, 900, 1, 777}, {"aside", 0, 0, true},
        {"hint", 52, 17, 0, 0}, {"type", 0x613D332F313B623DL, 8}, {"type", 0x342F323A61L, 5}, {"skills"},
        {"type", 0x613D35L, 3}, {"exercise", 0, 1, 60, true}, {"exercise", 1, 0, 7, false}, {"deal", 0, 3}, {"deal", 1, 5},
        {"sheet", 1, 1, 9}, {"sheet", 2, 2, 12}, {"item", 2, 2, 0, 52}, {"item", 2, 2, 1, 17}, {"item", 2, 2, 2, 35},
        {"item", 2, 2, 5, 1000}
    };
    private static final int MOST_CALLS = 512;

    private final Map<String, Method> faces = new HashMap<>();
    private final Object[][] made;
    private LessonDesk desk;
    private PlainDesk plain;
    private int calls;

    private EdgePairsTest(Object[][] made) {
        this.made = made;
        remember(LessonDesk.class);
        remember(PlainDesk.class);
        renew();
    }

    public static void main(String[] args) throws Exception {
        for (Object[][] made : new Object[][][] {{}, BUSY, full()}) {
            EdgePairsTest test = new EdgePairsTest(made);
            for (Object[] call : CALLS) {
                test.pairs(call);
            }
        }
        Check.end();
    }

    /** As busy as before, but no LEARNER, ANSWER of LEARNER 0, byte or OUTCOME more can come. */
    private static Object[][] full() {
        java.util.List<Object[]> all = new java.util.ArrayList<>(java.util.List.of(BUSY));
        for (int i = 0; i < 10; i++) {
            all.add(new Object[] {"learner"});
            all.add(new Object[] {"deal", 1, i});
        }
        for (int i = 0; i < 38; i++) {
            all.add(new Object[] {"answer", 0, 52, 17, 45});
        }
        for (int i = 0; i < 13; i++) {
            all.add(new Object[] {"type", 0x2020202020202020L, i == 0 ? 1 : 8});
        }
        return all.toArray(new Object[0][]);
    }

    private void remember(Class<?> type) {
        for (Method m : type.getDeclaredMethods()) {
            faces.put(type.getName() + "." + m.getName() + "/" + m.getParameterCount(), m);
        }
    }

    private void renew() {
        desk = new LessonDesk();
        plain = new PlainDesk();
        calls = 0;
        for (Object[] call : made) {
            both(call);
        }
    }

    private int answer(Object of, Object[] call, Object[] args) {
        try {
            Method m = faces.get(of.getClass().getName() + "." + call[0] + "/" + args.length);
            return (Integer) m.invoke(of, args);
        } catch (InvocationTargetException e) {
            System.out.println(java.util.Arrays.toString(call) + " throws " + e.getCause());
            return Integer.MIN_VALUE;
        } catch (IllegalAccessException e) {
            throw new IllegalStateException(e);
        }
    }

    /** What LessonDesk answers, looked at by PlainDesk's answer. */
    private int both(Object[] call) {
        Object[] args = java.util.Arrays.copyOfRange(call, 1, call.length);
        int got = answer(desk, call, args);
        Check.due(java.util.Arrays.toString(call), got, answer(plain, call, args));
        calls++;
        return got;
    }

    private void tryOne(Object[] call) {
        int got = both(call);
        // What was refused changes nothing: then the desk serves for the next one, too.
        if (got >= 0 || calls >= MOST_CALLS) {
            renew();
        }
    }

    private void pairs(Object[] call) {
        for (int one = 1; one < call.length; one++) {
            for (int other = one; other < call.length; other++) {
                if (call[one] instanceof Integer && call[other] instanceof Integer) {
                    pair(call, one, other);
                }
            }
        }
    }

    private void pair(Object[] call, int one, int other) {
        for (int v : TRIED) {
            for (int w : TRIED) {
                if (one != other || v == w) {
                    Object[] changed = call.clone();
                    changed[one] = v;
                    changed[other] = w;
                    tryOne(changed);
                }
            }
        }
    }
}
