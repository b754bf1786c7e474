import java.math.BigInteger;
import java.time.LocalTime;
import java.time.temporal.ChronoUnit;
import java.util.ArrayList;
import java.util.Arrays;
import java.util.List;
import java.util.Random;
import java.util.TreeSet;

/** Long runs of calls beside a model of java.time.LocalTime and BigInteger; the seeds are fixed, so runs repeat. */
public final class ModelTest {
    private static final int RUNS = 400;
    private static final int CALLS = 512;
    private static final ChronoUnit[] UNITS = {
        ChronoUnit.NANOS, ChronoUnit.MICROS, ChronoUnit.MILLIS, ChronoUnit.SECONDS, ChronoUnit.MINUTES,
        ChronoUnit.HOURS, ChronoUnit.HALF_DAYS, ChronoUnit.DAYS
    };
    private static final int[] EDGES = {
        Integer.MIN_VALUE, Integer.MIN_VALUE + 1, -86401, -86400, -1, 0, 1, 23, 24, 59, 60, 1439, 1440, 86399, 86400,
        100000007, 999999999, 1000000000, Integer.MAX_VALUE
    };

    private final Random random;
    private final LocalTime[] times = new LocalTime[8];
    private int knocks = 0;
    private int changes = 0;

    private ModelTest(long seed) {
        random = new Random(seed);
        Arrays.fill(times, LocalTime.MIDNIGHT);
    }

    public static void main(String[] args) {
        for (int run = 0; run < RUNS; run++) {
            if (!new ModelTest(run).runs(run)) {
                System.exit(1);
            }
        }
        System.out.println(RUNS + " runs of " + CALLS + " calls are as the model has them");
    }

    private boolean runs(int run) {
        Clocksolo x = new Clocksolo();
        for (int call = 0; call < CALLS; call++) {
            int method = random.nextInt(25);
            int[] a = {clock(), clock(), 0, 0, 0};
            fill(a, method);
            Object want;
            Object got;
            try {
                want = modelled(method, a);
            } catch (RuntimeException e) {
                want = e.getClass();
            }
            try {
                got = answered(x, method, a);
            } catch (RuntimeException e) {
                got = e.getClass();
            }
            if (!want.equals(got)) {
                System.out.println("run " + run + ", call " + call + ", method " + method + Arrays.toString(a)
                    + ": answered " + got + ", due is " + want);
                return false;
            }
        }
        return true;
    }

    private int clock() {
        return random.nextInt(40) == 0 ? random.nextInt(12) - 2 : random.nextInt(8);
    }

    private int below(int bound) {
        int kind = random.nextInt(30);
        if (kind == 0) {
            return EDGES[random.nextInt(EDGES.length)];
        }
        if (kind < 4) {
            return bound - 1;
        }
        return kind < 7 ? 0 : random.nextInt(bound);
    }

    private int any() {
        int kind = random.nextInt(3);
        if (kind == 0) {
            return EDGES[random.nextInt(EDGES.length)];
        }
        return kind == 1 ? random.nextInt() : random.nextInt(200) - 100;
    }

    private int unit(int bound) {
        return random.nextInt(20) == 0 ? random.nextInt(13) - 3 : random.nextInt(bound);
    }

    private int stepUnit() {
        return random.nextInt(20) == 0 ? random.nextInt(12) - 2 : new int[] {0, 3, 4, 5}[random.nextInt(4)];
    }

    private void fill(int[] a, int method) {
        int[] bounds = {24, 60, 60, 1000000000};
        switch (method) {
            case 0 -> {
                a[1] = below(24);
                a[2] = below(60);
                a[3] = below(60);
                a[4] = below(1000000000);
            }
            case 1 -> a[1] = below(86400);
            case 2 -> {
                a[1] = below(86400);
                a[2] = below(1000000000);
            }
            case 3 -> a[1] = random.nextInt(5) - 1;
            case 5 -> {
                a[1] = random.nextInt(20) == 0 ? 4 : random.nextInt(4);
                a[2] = below(a[1] < 4 ? bounds[a[1]] : 24);
            }
            case 6, 7 -> {
                a[1] = stepUnit();
                a[2] = any();
                a[3] = any();
            }
            case 8 -> {
                a[1] = stepUnit();
                a[2] = any();
                a[3] = random.nextInt(20) == 0 ? any() : random.nextInt(41);
            }
            case 9, 13 -> a[1] = unit(8);
            case 10 -> a[1] = unit(5);
            case 18 -> a[2] = unit(7);
            case 22 -> a[0] = unit(2);
            default -> {
            }
        }
    }

    private static Object answered(Clocksolo x, int method, int[] a) {
        return switch (method) {
            case 0 -> x.tell(a[0], a[1], a[2], a[3], a[4]);
            case 1 -> x.tellSecond(a[0], a[1]);
            case 2 -> x.tellNumber(a[0], a[1], a[2]);
            case 3 -> x.tellKnown(a[0], a[1]);
            case 4 -> x.take(a[0], a[1]);
            case 5 -> x.with(a[0], a[1], a[2]);
            case 6 -> x.plus(a[0], a[1], a[2], a[3]);
            case 7 -> x.minus(a[0], a[1], a[2], a[3]);
            case 8 -> x.walk(a[0], a[1], a[2], a[3]);
            case 9 -> x.cut(a[0], a[1]);
            case 10 -> x.of(a[0], a[1]);
            case 11 -> x.number(a[0]);
            case 12 -> x.text(a[0]);
            case 13 -> x.beyond(a[0], a[1]);
            case 14 -> x.compare(a[0], a[1]);
            case 15 -> x.isAhead(a[0], a[1]);
            case 16 -> x.isBehind(a[0], a[1]);
            case 17 -> x.areAlike(a[0], a[1]);
            case 18 -> x.between(a[0], a[1], a[2]);
            case 19 -> x.order();
            case 20 -> x.kinds();
            case 21 -> x.knock();
            case 22 -> x.house(a[0]);
            case 23 -> x.isSound();
            default -> x.digest();
        };
    }

    private Object modelled(int method, int[] a) {
        if (method < 19) {
            needRange(a[0], 0, 7, true);
        }
        if (method == 4 || method >= 14 && method < 19) {
            needRange(a[1], 0, 7, true);
        }
        return method < 10 ? changed(method, a) : asked(method, a);
    }

    private Object changed(int method, int[] a) {
        LocalTime before = times[a[0]];
        LocalTime now;
        Object answer = null;
        switch (method) {
            case 0 -> {
                needRange(a[1], 0, 23, false);
                needRange(a[2], 0, 59, false);
                needRange(a[3], 0, 59, false);
                needRange(a[4], 0, 999999999, false);
                now = LocalTime.of(a[1], a[2], a[3], a[4]);
            }
            case 1 -> {
                needRange(a[1], 0, 86399, false);
                now = LocalTime.ofSecondOfDay(a[1]);
                answer = now.getHour();
            }
            case 2 -> {
                needRange(a[1], 0, 86399, false);
                needRange(a[2], 0, 999999999, false);
                now = LocalTime.ofNanoOfDay(1000000000L * a[1] + a[2]);
                answer = now.getHour();
            }
            case 3 -> {
                needRange(a[1], 0, 2, false);
                now = new LocalTime[] {LocalTime.MIN, LocalTime.NOON, LocalTime.MAX}[a[1]];
            }
            case 4 -> {
                now = times[a[1]];
                answer = now.equals(before) ? 0 : 1;
            }
            case 5 -> {
                now = withPart(before, a[1], a[2]);
                answer = partOf(before, a[1]);
            }
            case 6 -> now = shifted(before, a[1], product(a[2], a[3]));
            case 7 -> now = shifted(before, a[1], product(a[2], a[3]).negate());
            case 8 -> {
                needStepUnit(a[1]);
                needRange(a[3], 0, 40, false);
                now = before;
                int falls = 0;
                for (int i = 0; i < a[3]; i++) {
                    LocalTime next = shifted(now, a[1], BigInteger.valueOf(a[2]));
                    falls += next.isBefore(now) ? 1 : 0;
                    now = next;
                }
                answer = falls;
            }
            default -> {
                needRange(a[1], 0, 7, false);
                now = before.truncatedTo(UNITS[a[1]]);
            }
        }
        times[a[0]] = now;
        changes++;
        return answer == null ? (Object) now.toSecondOfDay() : answer;
    }

    private Object asked(int method, int[] a) {
        switch (method) {
            case 10:
                needRange(a[1], 0, 4, false);
                return partOf(times[a[0]], a[1]);
            case 11:
                return Long.toString(times[a[0]].toNanoOfDay());
            case 12:
                LocalTime t = times[a[0]];
                return t.getHour() + ":" + t.getMinute() + ":" + t.getSecond() + "." + t.getNano();
            case 13:
                needRange(a[1], 0, 7, false);
                return Long.toString(times[a[0]].truncatedTo(UNITS[a[1]]).until(times[a[0]], ChronoUnit.NANOS));
            case 14:
                return times[a[0]].compareTo(times[a[1]]);
            case 15:
                return times[a[0]].isBefore(times[a[1]]);
            case 16:
                return times[a[0]].isAfter(times[a[1]]);
            case 17:
                return times[a[0]].equals(times[a[1]]);
            case 18:
                needRange(a[2], 0, 6, false);
                return Long.toString(times[a[0]].until(times[a[1]], UNITS[a[2]]));
            case 19:
                return order();
            case 20:
                return new TreeSet<>(Arrays.asList(times)).size();
            case 21:
                knocks++;
                return knocks;
            case 22:
                needRange(a[0], 0, 1, false);
                return a[0] == 0 ? knocks : changes;
            case 23:
                return true;
            default:
                return digest();
        }
    }

    private static BigInteger product(int amount, int times) {
        return BigInteger.valueOf(amount).multiply(BigInteger.valueOf(times));
    }

    private static LocalTime shifted(LocalTime time, int unit, BigInteger units) {
        needStepUnit(unit);
        BigInteger size = BigInteger.valueOf(UNITS[unit].getDuration().toNanos());
        BigInteger nanos = BigInteger.valueOf(time.toNanoOfDay()).add(units.multiply(size));
        return LocalTime.ofNanoOfDay(nanos.mod(BigInteger.valueOf(86400000000000L)).longValueExact());
    }

    private static LocalTime withPart(LocalTime time, int what, int value) {
        needRange(what, 0, 3, false);
        needRange(value, 0, new int[] {23, 59, 59, 999999999}[what], false);
        return switch (what) {
            case 0 -> time.withHour(value);
            case 1 -> time.withMinute(value);
            case 2 -> time.withSecond(value);
            default -> time.withNano(value);
        };
    }

    private static int partOf(LocalTime time, int what) {
        return switch (what) {
            case 0 -> time.getHour();
            case 1 -> time.getMinute();
            case 2 -> time.getSecond();
            case 3 -> time.getNano();
            default -> time.toSecondOfDay();
        };
    }

    private String order() {
        List<Integer> clocks = new ArrayList<>(List.of(0, 1, 2, 3, 4, 5, 6, 7));
        clocks.sort((one, other) -> times[one].compareTo(times[other]));
        return clocks.toString().replaceAll("[\\[\\],]", "");
    }

    private long digest() {
        List<Long> values = new ArrayList<>();
        values.add((long) knocks);
        values.add((long) changes);
        for (LocalTime time : times) {
            for (int what = 0; what < 5; what++) {
                values.add((long) partOf(time, what));
            }
            values.add(time.toNanoOfDay());
        }
        for (LocalTime time : times) {
            values.add((long) times[0].compareTo(time));
            for (int unit = 0; unit < 7; unit++) {
                values.add(times[0].until(time, UNITS[unit]));
            }
        }
        values.add((long) new TreeSet<>(Arrays.asList(times)).size());
        order().chars().forEach(sign -> values.add((long) sign));
        values.add(1L);
        long d = 7788;
        for (long value : values) {
            d = d * 31 + value;
        }
        return d;
    }

    private static void needStepUnit(int unit) {
        if (unit != 0 && unit != 3 && unit != 4 && unit != 5) {
            throw new IllegalArgumentException();
        }
    }

    private static void needRange(int value, int first, int last, boolean isClock) {
        if (value < first || value > last) {
            if (isClock) {
                throw new IndexOutOfBoundsException();
            }
            throw new IllegalArgumentException();
        }
    }
}
