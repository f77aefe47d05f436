import java.lang.reflect.InvocationTargetException;
import java.lang.reflect.Method;
import java.lang.reflect.Modifier;
import java.util.HashMap;
import java.util.Map;

/**
 * A FireSale whose calls are told as texts ("set 0 3 99"), and which tells back all that it keeps
 * as such a text: so a row of a test shows what was, what is called and what is then.
 */
final class Thing {
    /** The document's own: what later calls answer is free, so no test may look at it. */
    static final int MOST_CALLS = 512;

    private static final Map<String, Method> METHODS = methods();
    private static final String[] USES = {"state 3 7", "mustSell 3 0 0", "aid 2 500 0",
        "bestAid 3 500 -1", "buyer 0 9 5", "stress 40 5", "next 0 0 0 4", "ranked 0", "spell -1",
        "domino 0 4"};

    private final FireSale x = new FireSale();
    private int calls = 0;

    private static Map<String, Method> methods() {
        Map<String, Method> all = new HashMap<>();
        for (Method m : FireSale.class.getDeclaredMethods()) {
            if (Modifier.isPublic(m.getModifiers())) {
                all.put(m.getName(), m);
            }
        }
        return all;
    }

    /** Texts and calls, a bar between them: "asset 9 1;house 5 0 0 1 0 3;|lay 2 0 0 5". */
    static Thing of(String world) {
        Thing t = new Thing();
        for (String part : world.split("\\|")) {
            if (part.contains(";")) {
                t.tell(part);
                Check.due("text of " + part + " (below 0)", Math.min(0, t.call("text")), 0);
            } else if (!part.isEmpty()) {
                Check.due(part + " (below 0) in " + world, Math.min(0, t.call(part)), 0);
            }
        }
        return t;
    }

    /** The bytes come on the tape: each char is one. */
    void tell(String bytes) {
        counted((bytes.length() + 19) / 20 + 1);
        Check.tell(x, bytes);
    }

    private void counted(int more) {
        calls += more;
        if (calls > MOST_CALLS && calls - more <= MOST_CALLS) {
            Check.due("calls of one object", calls, MOST_CALLS);
        }
    }

    private static Object argument(Class<?> type, String told) {
        if (type == boolean.class) {
            return Boolean.valueOf(told);
        }
        switch (told) {
            case "MIN":
                return Integer.MIN_VALUE;
            case "MAX":
                return Integer.MAX_VALUE;
            default:
                return Integer.valueOf(told);
        }
    }

    long call(String told) {
        counted(1);
        String[] words = told.split(" ");
        Method m = METHODS.get(words[0]);
        Object[] arguments = new Object[words.length - 1];
        for (int i = 0; i < arguments.length; i++) {
            arguments[i] = argument(m.getParameterTypes()[i], words[i + 1]);
        }
        try {
            return ((Number) m.invoke(x, arguments)).longValue();
        } catch (InvocationTargetException e) {
            Check.due(told + " threw " + e.getCause(), 1, 0);
            return Long.MIN_VALUE;
        } catch (IllegalAccessException e) {
            throw new IllegalStateException(e);
        }
    }

    /** Asks, which change nothing: but then the object's own rows are no longer as new. */
    void use() {
        for (String told : USES) {
            call(told);
        }
    }

    private void addShelf(StringBuilder all, int shelf) {
        long laid = call("count " + (4 + shelf));
        for (int place = 0; place < laid; place++) {
            String at = "shelf " + shelf + " " + place + " ";
            long kind = call(at + 0);
            if (shelf == 2) {
                all.append("|lay 2 ").append(kind);
            } else {
                all.append(kind != shelf ? "wrong kind" : kind == 0 ? "cap" : "shock");
            }
            all.append(' ').append(call(at + 1)).append(' ').append(call(at + 2));
            all.append(shelf == 2 ? "" : ";");
        }
    }

    private void addHouse(StringBuilder all, int house, long assets) {
        all.append("house");
        for (int what = 0; what < 5; what++) {
            all.append(' ').append(call("of " + house + " " + what));
        }
        for (int asset = 0; asset < assets; asset++) {
            all.append(' ').append(call("holding " + house + " " + asset));
        }
        all.append(';');
    }

    private void addLoans(StringBuilder all, long houses) {
        int count = 0;
        for (int from = 0; from < houses; from++) {
            for (int to = 0; to < houses; to++) {
                long v = call("owes " + from + " " + to);
                if (v != 0) {
                    count++;
                    all.append("loan ").append(from).append(' ').append(to).append(' ').append(v)
                            .append(';');
                }
            }
        }
        Check.due("LOANS in " + all, call("count 7"), count);
    }

    /** ASSETS, HOUSES, LOANS, SHELVES, asked one by one, in the form that of() takes. */
    String things() {
        StringBuilder all = new StringBuilder();
        long assets = call("count 0");
        long houses = call("count 1");
        for (int asset = 0; asset < assets; asset++) {
            all.append("asset ").append(call("ofAsset " + asset + " 0")).append(' ')
                    .append(call("ofAsset " + asset + " 1")).append(';');
        }
        for (int house = 0; house < houses; house++) {
            addHouse(all, house, assets);
        }
        addLoans(all, houses);
        for (int shelf = 0; shelf < 3; shelf++) {
            addShelf(all, shelf);
        }
        return all.toString();
    }

    /** The things, how many ACTS can be undone, and how long the tape is. */
    String whole() {
        return things() + " acts " + call("count 2") + " tape " + call("count 3");
    }
}
