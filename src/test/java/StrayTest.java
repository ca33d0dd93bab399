import java.lang.reflect.InvocationTargetException;
import java.lang.reflect.Method;
import java.lang.reflect.Modifier;
import java.util.ArrayList;
import java.util.Arrays;
import java.util.Comparator;
import java.util.List;
import java.util.Random;

/** Rule 7: every call with odd numbers in every place, in many states, throws nothing that its face does not declare. */
public final class StrayTest {
    private static final int[] NUMBERS = {Integer.MIN_VALUE, -100000, -8, -2, -1, 0, 1, 2, 6, 7, 8, 9, 13, 31, 32, 39, 40, 41, 59, 60, 61,
        100, 255, 256, 399, 400, 401, 999, 1000, 9999, 10000, 99999, 100000, Integer.MAX_VALUE};
    private static final String EIGHT = "person bears 99 pain 9999999;person bears 1 pain 0000000;person bears 5 pain 1234567;"
        + "person bears 9 pain 7654321;person bears 20 pain 0900000;person bears 3 pain 3333333;person bears 50 pain 9090909;"
        + "person bears 8 pain 0000001";
    private static final String FULL = "account 0 99999;account 1 99999;account 2 7;forged 1 99999;heir 0 1;heir 1 0;hears 2 1;"
        + "owes 0 1 9999;owes 1 2 9999;owes 2 0 9999;rain 50;fall 50;vault 99999";
    private static final int WALKS = 60;
    private static final int MOST_CALLS = 512;
    // A state is made by fewer calls than these.
    private static final int READY = 220;

    private static int made = 0;

    public static void main(String[] args) throws IllegalAccessException {
        List<Method> calls = calls();
        for (Method call : calls) {
            for (int state = 0; state < 7; state++) {
                everywhere(call, state);
            }
        }
        for (int walk = 1; walk <= WALKS; walk++) {
            stroll(calls, new Random(walk), walk % 7);
        }
        Check.due("calls were made", made > 100000, true);
        Check.finish();
    }

    private static List<Method> calls() {
        List<Method> calls = new ArrayList<>();
        for (Method call : PainBank.class.getDeclaredMethods()) {
            if (Modifier.isPublic(call.getModifiers())) {
                calls.add(call);
            }
        }
        calls.sort(Comparator.comparing(Method::getName));
        return calls;
    }

    /** Nobody; one; eight; eight with full accounts; these failed; some dead; the last day. */
    private static PainBank bank(int state) {
        PainBank bank = new PainBank();
        if (state == 1) {
            Check.tell(bank, "person bears 1 pain 0000000");
        } else if (state >= 2) {
            Check.tell(bank, EIGHT);
        }
        if (state >= 3) {
            Check.tell(bank, FULL);
            Check.rule(bank, "put 99 if wet or not sunday;draw 99 if account + day > 99 and not ( who < pain + bears )");
        }
        if (state == 4) {
            bank.days(1);
        } else if (state == 5) {
            bank.die(0);
            bank.die(7);
        } else if (state == 6) {
            for (int i = 0; i < 170; i++) {
                bank.days(60);
            }
        }
        return bank;
    }

    /** Each pair of places takes all pairs of numbers, the other places 1. */
    private static void everywhere(Method call, int state) throws IllegalAccessException {
        int places = Math.max(1, call.getParameterCount());
        for (int first = 0; first < places; first++) {
            for (int second = first; second < places; second++) {
                PainBank bank = bank(state);
                for (int i = 0; i < NUMBERS.length * NUMBERS.length; i++) {
                    if (i % (MOST_CALLS - READY) == 0) {
                        bank = bank(state);
                    }
                    make(bank, call, values(call, first, NUMBERS[i / NUMBERS.length], second, NUMBERS[i % NUMBERS.length]));
                }
            }
        }
    }

    private static Object[] values(Method call, int first, int a, int second, int b) {
        Object[] values = new Object[call.getParameterCount()];
        for (int at = 0; at < values.length; at++) {
            values[at] = value(call, at, at == first ? a : at == second ? b : 1);
        }
        return values;
    }

    private static Object value(Method call, int at, int number) {
        return call.getParameterTypes()[at] == int.class ? (Object) number : Boolean.valueOf(number > 0);
    }

    private static void stroll(List<Method> calls, Random random, int state) throws IllegalAccessException {
        PainBank bank = bank(state);
        for (int i = READY; i < MOST_CALLS; i++) {
            Method call = calls.get(random.nextInt(calls.size()));
            Object[] values = new Object[call.getParameterCount()];
            for (int at = 0; at < values.length; at++) {
                values[at] = value(call, at, random.nextInt(3) == 0 ? NUMBERS[random.nextInt(NUMBERS.length)] : random.nextInt(8));
            }
            make(bank, call, values);
        }
    }

    private static void make(PainBank bank, Method call, Object[] values) throws IllegalAccessException {
        made++;
        try {
            call.invoke(bank, values);
        } catch (InvocationTargetException e) {
            Class<?> thrown = e.getCause().getClass();
            if (!Arrays.asList(call.getExceptionTypes()).contains(thrown)) {
                Check.due(call.getName() + Arrays.toString(values) + " throws " + e.getCause(), true, false);
            }
        }
    }
}
