import java.lang.management.ManagementFactory;
import java.lang.reflect.InvocationTargetException;
import java.lang.reflect.Method;
import java.lang.reflect.Modifier;

/** Whatever the arguments are, calls end and nothing is thrown; and calls make nothing new. */
public final class LimitsTest {
    private static final int[] ODD = {Integer.MIN_VALUE, Integer.MIN_VALUE + 1, -1000000, -2, -1, 0,
        1, 2, 3, 4, 5, 6, 7, 12, 100, 360, 361, 999, 1000, 2000, 2001, 9999, 10000, 60060,
        Integer.MAX_VALUE - 1, Integer.MAX_VALUE};

    /** The longest that a spiral may be told as: all rows full. */
    private static String full() {
        StringBuilder all = new StringBuilder("asset 200 1;".repeat(4));
        for (int i = 0; i < 6; i++) {
            all.append("house 99 9999 9999 99 ").append(i % 2).append(" 60 60 60 60;");
        }
        for (int i = 0; i < 5; i++) {
            all.append("loan ").append(i).append(' ').append(i + 1).append(" 999;");
        }
        return all.append("cap 3 360;".repeat(4)).append("shock 3 20;".repeat(4)).toString();
    }

    private static void oddArguments() throws IllegalAccessException {
        Dice dice = new Dice(77);
        for (int run = 0; run < 60; run++) {
            FireSale x = run % 3 == 0 ? new FireSale() : Check.of(full());
            for (int call = 0; call < 500; call++) {
                Method[] all = FireSale.class.getDeclaredMethods();
                Method m = all[dice.below(all.length)];
                if (!Modifier.isPublic(m.getModifiers())) {
                    continue;
                }
                Object[] arguments = new Object[m.getParameterCount()];
                StringBuilder told = new StringBuilder(m.getName());
                for (int i = 0; i < arguments.length; i++) {
                    arguments[i] = m.getParameterTypes()[i] == boolean.class
                            ? (Object) dice.oneIn(2) : (Object) ODD[dice.below(ODD.length)];
                    told.append(' ').append(arguments[i]);
                }
                try {
                    m.invoke(x, arguments);
                } catch (InvocationTargetException e) {
                    Check.due(told + " threw " + e.getCause(), 1, 0);
                }
            }
        }
    }

    /** One piece SOLD costs the HOUSE sixty coins, and by sixty it must sell one piece more. */
    private static void longSpiral() {
        FireSale x = Check.of("asset 60 1;".repeat(4) + "house 0 4402 9999 60 0 60 60 60 60;");
        int least = x.rounds(false);
        Check.due("it goes on for some rounds", least > 100 ? 1 : 0, 1);
        Check.due("round 2000", x.round(2000, 7), x.state(1, 7));
        for (int k = 1; k <= least; k++) {
            Check.due("more is sold", x.round(k, 7) > x.round(k - 1, 7) ? 1 : 0, 1);
        }
    }

    private static long callAll(FireSale x) {
        long sum = x.spell(-1) + x.mood() + x.hundredths() + x.index(1) + x.drop(2) + x.ratio(1, 3);
        sum += x.state(2, 5) + x.rounds(true) + x.mustSell(1, 2, 3) + x.ranked(3) + x.fellIn(2);
        sum += x.next(1001, 1001, 3, 5) + x.isSteady(0, 0, 0) + x.sharpest() + x.worthIn(9, 1);
        sum += x.rescue(1, 5, 5) + x.helper(50, 0) + x.coinsFor(2) + x.aid(6, 9, 0);
        sum += x.bestAid(4, 99, 1) + x.buyer(0, 9, 5) + x.capFor(1) + x.shockFor(2);
        sum += x.domino(1, 5) + x.keystone() + x.pulls(0) + x.room(2) + x.stress(50, 5);
        sum += x.fewest() + x.doubtful() + x.live() + x.undo() + x.merge(0, 1) + x.undo();
        sum += x.close(3) + x.undo() + x.lift(0, 0) + x.undo() + x.set(1, 3, 5) + x.undo();
        x.feed(0x63617020, 0, 0, 0, 0);
        return sum + x.text();
    }

    private static void noRoom() {
        FireSale x = Check.of(full());
        callAll(x);
        com.sun.management.ThreadMXBean bean =
                (com.sun.management.ThreadMXBean) ManagementFactory.getThreadMXBean();
        long id = Thread.currentThread().getId();
        long before = bean.getThreadAllocatedBytes(id);
        long first = callAll(x);
        long second = callAll(x);
        long made = bean.getThreadAllocatedBytes(id) - before;
        Check.due("the same again", first, second);
        Check.due("calls make nothing new, but made " + made, made < 2000 ? 1 : 0, 1);
    }

    public static void main(String[] args) throws IllegalAccessException {
        oddArguments();
        longSpiral();
        noRoom();
        Check.end();
    }
}
