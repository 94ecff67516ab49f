import java.lang.reflect.Constructor;
import java.lang.reflect.InvocationTargetException;
import java.lang.reflect.Method;
import java.util.Arrays;
import java.util.Comparator;

/**
 * The frame of the tests of boundary cases: every method that is marked as an edge is a test of
 * its own, with a slope of its own, and goes on being told of when another one fails.
 */
abstract class EdgeTests extends Slopes {
    /** A call with one number. */
    interface CallWith {
        Object answer(int n);
    }

    PumiceSledge x = new PumiceSledge();
    private final Check check = new Check();

    static void runAll(Class<? extends EdgeTests> tests) {
        Method[] methods = tests.getDeclaredMethods();
        Arrays.sort(methods, Comparator.comparing(Method::getName));
        int run = 0;
        int failed = 0;
        for (Method method : methods) {
            if (method.isAnnotationPresent(Edge.class)) {
                run++;
                failed += passes(tests, method) ? 0 : 1;
            }
        }
        System.out.println(run + " edges looked at, " + failed + " not as due");
        if (failed > 0 || run == 0) {
            System.exit(1);
        }
    }

    private static boolean passes(Class<? extends EdgeTests> tests, Method method) {
        String thrown = "";
        boolean isGood = false;
        try {
            Constructor<? extends EdgeTests> made = tests.getDeclaredConstructor();
            EdgeTests test = made.newInstance();
            method.invoke(test);
            isGood = test.check.looked() > 0 && test.check.wrong() == 0;
        } catch (InvocationTargetException e) {
            thrown = ", which threw " + e.getCause();
        } catch (ReflectiveOperationException e) {
            thrown = ", which cannot be run: " + e;
        }
        if (!isGood) {
            String sentence = method.getAnnotation(Edge.class).value();
            System.out.println("  in " + method.getName() + thrown + ": " + sentence);
        }
        return isGood;
    }

    void due(String call, Object want, Object got) {
        check.due(call, want, got);
    }

    /** A refused call throws just this, and changes nothing. */
    void refused(String call, Class<? extends RuntimeException> want, Check.Call made) {
        long before = x.digest();
        check.dueThrow(call, want, made);
        check.due("digest() behind " + call, before, x.digest());
    }

    /** The call, told with # for the number, is refused with each number that is not allowed. */
    void refusedOutside(int least, int most, String call, Class<? extends RuntimeException> want,
            CallWith made) {
        for (int bad : outside(least, most)) {
            refused(call.replace("#", "" + bad), want, () -> made.answer(bad));
        }
    }

    /** Such a call tells what it does, but does not change anything. */
    void dueUnchanged(String call, Object want, Check.Call made) {
        long before = x.digest();
        check.due(call, want, Check.outcome(made));
        check.due("digest() behind " + call, before, x.digest());
    }

    void dueTold(int sledge, int... want) {
        for (int what = 0; what < want.length; what++) {
            due("told(" + sledge + ", " + what + ")", want[what], x.told(sledge, what));
        }
    }

    void dueBoat(int boat, int... want) {
        for (int what = 0; what < want.length; what++) {
            due("boat(" + boat + ", " + what + ")", want[what], x.boat(boat, what));
        }
    }

    void dueCount(int... want) {
        for (int what = 0; what < want.length; what++) {
            due("count(" + what + ")", want[what], x.count(what));
        }
    }

    void dueBeach(int heavy, int fair, int light) {
        due("beach(0)", heavy, x.beach(HEAVY));
        due("beach(1)", fair, x.beach(FAIR));
        due("beach(2)", light, x.beach(LIGHT));
    }
}
