import java.lang.reflect.InvocationTargetException;
import java.lang.reflect.Method;
import java.util.Arrays;
import java.util.Comparator;

/** What the tests share: how a class of tests is run, how an answer and a refusal are looked at, objects to begin with. */
final class Check {
    static final int[] UNITS = {0, 1, 2, 3, 4, 5, 6, 7};
    static final int[] STEP_UNITS = {0, 3, 4, 5};
    static final int[] INT_EDGES = {
        Integer.MIN_VALUE, Integer.MIN_VALUE + 1, -1, 0, 1, Integer.MAX_VALUE - 1, Integer.MAX_VALUE
    };
    static final long DAY_NANOS = 86400000000000L;
    /** Written out here once more: a size that is wrong in the class must not be wrong in its tests too. */
    static final long[] UNIT_NANOS = {
        1L, 1000L, 1000000L, 1000000000L, 60000000000L, 3600000000000L, 43200000000000L, DAY_NANOS
    };

    private static final int[] NO_CLOCKS = {-1, 8, Integer.MIN_VALUE, Integer.MAX_VALUE};

    private static int looked = 0;
    private static int wrong = 0;

    interface Call {
        Object answer(Clocksolo x);
    }

    interface CallWith {
        Object answer(Clocksolo x, int value);
    }

    private Check() {
    }

    /** Runs each method that is named by a promise or by the description; one that fails does not hide the others. */
    static void runAll(Class<?> tests) {
        Method[] methods = tests.getDeclaredMethods();
        Arrays.sort(methods, Comparator.comparing(Method::getName));
        int ran = 0;
        for (Method method : methods) {
            if (method.getName().startsWith("promise") || method.getName().startsWith("description")) {
                run(method);
                ran++;
            }
        }
        if (ran == 0) {
            fail("there are no tests in " + tests.getName());
        }
        System.out.println(ran + " tests, " + looked + " answers looked at, " + wrong + " wrong");
        if (wrong != 0) {
            System.exit(1);
        }
    }

    private static void run(Method test) {
        int before = wrong;
        try {
            test.invoke(null);
        } catch (InvocationTargetException e) {
            fail("it threw " + e.getCause());
        } catch (IllegalAccessException e) {
            fail("it can't be called");
        }
        if (wrong != before) {
            System.out.println("test " + test.getName() + " failed");
        }
    }

    private static void fail(String why) {
        wrong++;
        System.out.println(why);
    }

    static void due(String what, Object want, Object got) {
        looked++;
        if (!want.equals(got)) {
            fail(what + ": answered " + got + ", due is " + want);
        }
    }

    static void outOfBounds(String what, Call call) {
        refused(what, IndexOutOfBoundsException.class, call);
    }

    static void illegal(String what, Call call) {
        refused(what, IllegalArgumentException.class, call);
    }

    /** The exact class: one that the machine throws is often a class below the due one. */
    private static void refused(String what, Class<?> want, Call call) {
        Clocksolo x = used();
        String before = state(x);
        Object got;
        try {
            got = call.answer(x);
        } catch (RuntimeException e) {
            got = e.getClass();
        }
        due(what, want, got);
        due(what + " changes nothing", before, state(x));
    }

    /** CLOCKS 0 to 7 are there, each alone is meant by its number, and the ones beside them are refused. */
    static void clocks(String what, Object want, CallWith call) {
        for (int clock = 0; clock < 8; clock++) {
            Clocksolo x = even();
            due(what + ", clock " + clock, want, call.answer(x, clock));
            for (int other = 0; other < 8; other++) {
                if (other != clock) {
                    due(what + ", clock " + clock + " leaves " + other, "13:37:42.123456789", x.text(other));
                }
            }
        }
        noClocks(what, call);
    }

    static void noClocks(String what, CallWith call) {
        for (int clock : NO_CLOCKS) {
            outOfBounds(what + ", clock " + clock, x -> call.answer(x, clock));
        }
    }

    /** The least and the greatest value are allowed and answered as due; the ones beside them are refused. */
    static void range(String what, int least, Object wantLeast, int greatest, Object wantGreatest, CallWith call) {
        due(what + " " + least, wantLeast, call.answer(used(), least));
        due(what + " " + greatest, wantGreatest, call.answer(used(), greatest));
        beyond(what, least, greatest, call);
    }

    static void beyond(String what, int least, int greatest, CallWith call) {
        for (int value : new int[] {least - 1, greatest + 1, Integer.MIN_VALUE, Integer.MAX_VALUE}) {
            illegal(what + " " + value, x -> call.answer(x, value));
        }
    }

    /** UNITS 0 and 3 to 5 alone. */
    static void stepUnits(String what, CallWith call) {
        for (int unit : STEP_UNITS) {
            Clocksolo x = used();
            call.answer(x, unit);
            due(what + ", unit " + unit + " is allowed", 9, x.house(1));
        }
        for (int unit : new int[] {-1, 1, 2, 6, 7, 8, Integer.MIN_VALUE, Integer.MAX_VALUE}) {
            illegal(what + ", unit " + unit, x -> call.answer(x, unit));
        }
    }

    /** CLOCK 0 alone is told. */
    static Clocksolo at(int hour, int minute, int second, int nano) {
        Clocksolo x = new Clocksolo();
        x.tell(0, hour, minute, second, nano);
        return x;
    }

    static Clocksolo atNumber(long number) {
        Clocksolo x = new Clocksolo();
        tellNumber(x, 0, number);
        return x;
    }

    static void tellNumber(Clocksolo x, int clock, long number) {
        x.tellNumber(clock, (int) (number / 1000000000L), (int) (number % 1000000000L));
    }

    /** All CLOCKS alike, and none of their parts 0. */
    static Clocksolo even() {
        Clocksolo x = new Clocksolo();
        for (int clock = 0; clock < 8; clock++) {
            x.tell(clock, 13, 37, 42, 123456789);
        }
        return x;
    }

    /** CLOCKS of all sorts, 0 and 4 alike, and both counts of house() above 0. */
    static Clocksolo used() {
        Clocksolo x = new Clocksolo();
        x.tell(0, 13, 37, 42, 123456789);
        x.tell(1, 23, 59, 59, 999999999);
        x.tell(2, 0, 0, 0, 1);
        x.tell(3, 12, 0, 0, 0);
        x.tell(4, 13, 37, 42, 123456789);
        x.tell(5, 11, 59, 59, 999999999);
        x.tell(6, 1, 2, 3, 4);
        x.tell(7, 20, 30, 40, 500000000);
        x.knock();
        x.knock();
        return x;
    }

    /** All that an object answers of itself: a refused call must leave each of these as it was. */
    static String state(Clocksolo x) {
        StringBuilder text = new StringBuilder();
        for (int clock = 0; clock < 8; clock++) {
            text.append(x.text(clock)).append(' ').append(x.number(clock)).append(' ');
        }
        text.append(x.house(0)).append(' ').append(x.house(1)).append(' ').append(x.order());
        return text.append(' ').append(x.kinds()).append(' ').append(x.digest()).toString();
    }

    /** The checksum as the document tells it, from the answers of the other calls. */
    static long digestByTheFace(Clocksolo x) {
        long d = 7788;
        d = d * 31 + x.house(0);
        d = d * 31 + x.house(1);
        for (int clock = 0; clock < 8; clock++) {
            for (int what = 0; what < 5; what++) {
                d = d * 31 + x.of(clock, what);
            }
            d = d * 31 + Long.parseLong(x.number(clock));
        }
        for (int clock = 0; clock < 8; clock++) {
            d = d * 31 + x.compare(0, clock);
            for (int unit = 0; unit < 7; unit++) {
                d = d * 31 + Long.parseLong(x.between(0, clock, unit));
            }
        }
        d = d * 31 + x.kinds();
        for (char sign : x.order().toCharArray()) {
            d = d * 31 + sign;
        }
        return d * 31 + (x.isSound() ? 1 : 0);
    }
}
