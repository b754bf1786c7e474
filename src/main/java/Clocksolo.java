/** Eight clocks of a day without a date; what each call promises stands in DOC.md. */
public final class Clocksolo {
    private static final int CLOCKS = 8;
    private static final int HOUR = 0;
    private static final int MINUTE = 1;
    private static final int SECOND = 2;
    private static final int NANO = 3;
    private static final int SECOND_OF_DAY = 4;
    private static final int DAY = 7;
    private static final int DAY_SECONDS = 86400;
    private static final int MOST_STEPS = 40;
    private static final int MOST_DIGITS = 19;
    private static final long SECOND_NANOS = 1000000000L;
    private static final long DAY_NANOS = 86400000000000L;
    private static final long[] UNIT_NANOS = {
        1L, 1000L, 1000000L, 1000000000L, 60000000000L, 3600000000000L, 43200000000000L, 86400000000000L
    };
    private static final int[] PART_ENDS = {24, 60, 60, 1000000000};
    private static final long[] PART_NANOS = {3600000000000L, 60000000000L, 1000000000L, 1L};
    private static final long[] KNOWN_NUMBERS = {0L, 43200000000000L, 86399999999999L};
    private static final int[] TRIAL_AMOUNTS = {1, 59, 100000007};

    // A CLOCK is held by its NUMBER alone, so that its parts can never disagree with it.
    private final long[] numbers;
    private int knocks;
    private int changes;

    public Clocksolo() {
        numbers = new long[CLOCKS];
        knocks = 0;
        changes = 0;
    }

    // ---- telling

    public int tell(int clock, int hour, int minute, int second, int nano)
            throws IndexOutOfBoundsException, IllegalArgumentException {
        needClock(clock);
        needPart(HOUR, hour);
        needPart(MINUTE, minute);
        needPart(SECOND, second);
        needPart(NANO, nano);
        return settle(clock, numberOfParts(hour, minute, second, nano));
    }

    public int tellSecond(int clock, int second) throws IndexOutOfBoundsException, IllegalArgumentException {
        needClock(clock);
        needSecondOfDay(second);
        settle(clock, second * SECOND_NANOS);
        return partOf(numberOf(clock), HOUR);
    }

    public int tellNumber(int clock, int second, int nano)
            throws IndexOutOfBoundsException, IllegalArgumentException {
        needClock(clock);
        needSecondOfDay(second);
        needPart(NANO, nano);
        settle(clock, second * SECOND_NANOS + nano);
        return partOf(numberOf(clock), HOUR);
    }

    public int tellKnown(int clock, int which) throws IndexOutOfBoundsException, IllegalArgumentException {
        needClock(clock);
        if (which < 0 || which >= KNOWN_NUMBERS.length) {
            throw new IllegalArgumentException("which is not 0 to 2");
        }
        return settle(clock, KNOWN_NUMBERS[which]);
    }

    public int take(int clock, int other) throws IndexOutOfBoundsException {
        needClock(clock);
        needClock(other);
        long before = numberOf(clock);
        long now = numberOf(other);
        settle(clock, now);
        return before == now ? 0 : 1;
    }

    // ---- changing

    public int with(int clock, int what, int value) throws IndexOutOfBoundsException, IllegalArgumentException {
        needClock(clock);
        needPart(what, value);
        long number = numberOf(clock);
        int before = partOf(number, what);
        settle(clock, number + ((long) value - before) * partNanos(what));
        return before;
    }

    public int plus(int clock, int unit, int amount, int times)
            throws IndexOutOfBoundsException, IllegalArgumentException {
        needClock(clock);
        needStepUnit(unit);
        return settle(clock, putOn(numberOf(clock), unit, (long) amount * times));
    }

    public int minus(int clock, int unit, int amount, int times)
            throws IndexOutOfBoundsException, IllegalArgumentException {
        needClock(clock);
        needStepUnit(unit);
        // The product is negated as a long: -amount would wrap around at the smallest int.
        return settle(clock, putOn(numberOf(clock), unit, -((long) amount * times)));
    }

    public int walk(int clock, int unit, int amount, int times)
            throws IndexOutOfBoundsException, IllegalArgumentException {
        needClock(clock);
        needStepUnit(unit);
        if (times < 0 || times > MOST_STEPS) {
            throw new IllegalArgumentException("times is not 0 to 40");
        }
        long number = numberOf(clock);
        int falls = 0;
        for (int step = 0; step < times; step++) {
            long next = putOn(number, unit, amount);
            if (next < number) {
                falls++;
            }
            number = next;
        }
        settle(clock, number);
        return falls;
    }

    public int cut(int clock, int unit) throws IndexOutOfBoundsException, IllegalArgumentException {
        needClock(clock);
        needUnit(unit, DAY);
        return settle(clock, cutNumber(numberOf(clock), unit));
    }

    // ---- what is asked

    public int of(int clock, int what) throws IndexOutOfBoundsException, IllegalArgumentException {
        needClock(clock);
        if (what < HOUR || what > SECOND_OF_DAY) {
            throw new IllegalArgumentException("what is not 0 to 4");
        }
        return partOf(numberOf(clock), what);
    }

    public String number(int clock) throws IndexOutOfBoundsException {
        needClock(clock);
        return digits(numberOf(clock));
    }

    public String text(int clock) throws IndexOutOfBoundsException {
        needClock(clock);
        long number = numberOf(clock);
        StringBuilder text = new StringBuilder();
        text.append(partOf(number, HOUR)).append(':');
        text.append(partOf(number, MINUTE)).append(':');
        text.append(partOf(number, SECOND)).append('.');
        text.append(partOf(number, NANO));
        return text.toString();
    }

    public String beyond(int clock, int unit) throws IndexOutOfBoundsException, IllegalArgumentException {
        needClock(clock);
        needUnit(unit, DAY);
        long number = numberOf(clock);
        return digits(number - cutNumber(number, unit));
    }

    // ---- laid beside

    public int compare(int clock, int other) throws IndexOutOfBoundsException {
        needClock(clock);
        needClock(other);
        return sideOf(numberOf(clock), numberOf(other));
    }

    public boolean isAhead(int clock, int other) throws IndexOutOfBoundsException {
        needClock(clock);
        needClock(other);
        return numberOf(clock) < numberOf(other);
    }

    public boolean isBehind(int clock, int other) throws IndexOutOfBoundsException {
        needClock(clock);
        needClock(other);
        return numberOf(clock) > numberOf(other);
    }

    public boolean areAlike(int clock, int other) throws IndexOutOfBoundsException {
        needClock(clock);
        needClock(other);
        return numberOf(clock) == numberOf(other);
    }

    public String between(int clock, int other, int unit)
            throws IndexOutOfBoundsException, IllegalArgumentException {
        needClock(clock);
        needClock(other);
        needUnit(unit, DAY - 1);
        return digits(unitsBetween(numberOf(clock), numberOf(other), unit));
    }

    public String order() {
        StringBuilder text = new StringBuilder();
        for (int place = 0; place < CLOCKS; place++) {
            if (place > 0) {
                text.append(' ');
            }
            text.append(clockAtPlace(place));
        }
        return text.toString();
    }

    public int kinds() {
        int kinds = 0;
        for (int clock = 0; clock < CLOCKS; clock++) {
            if (isUnlikeEarlier(clock)) {
                kinds++;
            }
        }
        return kinds;
    }

    // ---- the whole

    public int knock() {
        knocks++;
        return knocks;
    }

    public int house(int what) throws IllegalArgumentException {
        if (what == 0) {
            return knocks;
        }
        if (what == 1) {
            return changes;
        }
        throw new IllegalArgumentException("what is not 0 or 1");
    }

    public boolean isSound() {
        for (int clock = 0; clock < CLOCKS; clock++) {
            long number = numberOf(clock);
            if (!partsBelong(number) || !stepsHold(number) || !cutsHold(number)) {
                return false;
            }
            for (int other = 0; other < CLOCKS; other++) {
                if (!pairHolds(number, numberOf(other))) {
                    return false;
                }
            }
        }
        return true;
    }

    public long digest() {
        long d = 7788L;
        d = d * 31 + knocks;
        d = d * 31 + changes;
        for (int clock = 0; clock < CLOCKS; clock++) {
            d = digestClock(d, numberOf(clock));
        }
        for (int clock = 0; clock < CLOCKS; clock++) {
            d = digestPair(d, numberOf(0), numberOf(clock));
        }
        d = d * 31 + kinds();
        String order = order();
        for (int sign = 0; sign < order.length(); sign++) {
            d = d * 31 + order.charAt(sign);
        }
        return d * 31 + (isSound() ? 1 : 0);
    }

    // ---- what the calls need of their arguments

    private static void needClock(int clock) {
        if (clock < 0 || clock >= CLOCKS) {
            throw new IndexOutOfBoundsException("no such clock");
        }
    }

    private static void needPart(int what, int value) {
        if (what < HOUR || what >= PART_ENDS.length) {
            throw new IllegalArgumentException("no such part");
        }
        if (value < 0 || value >= PART_ENDS[what]) {
            throw new IllegalArgumentException("this part can't be that");
        }
    }

    private static void needSecondOfDay(int second) {
        if (second < 0 || second >= DAY_SECONDS) {
            throw new IllegalArgumentException("second is not 0 to 86399");
        }
    }

    private static void needUnit(int unit, int last) {
        if (unit < 0 || unit > last) {
            throw new IllegalArgumentException("no such unit");
        }
    }

    private static void needStepUnit(int unit) {
        if (!isStepUnit(unit)) {
            throw new IllegalArgumentException("unit is not 0 or 3 to 5");
        }
    }

    private static boolean isStepUnit(int unit) {
        return unit == 0 || unit >= 3 && unit <= 5;
    }

    // ---- one clock of the eight

    private long numberOf(int clock) {
        return clock >= 0 && clock < numbers.length ? numbers[clock] : 0L;
    }

    /** Every change of a CLOCK goes through here, so that house() counts each once; answers its SECOND of the day. */
    private int settle(int clock, long number) {
        if (clock >= 0 && clock < numbers.length) {
            numbers[clock] = number;
            changes++;
        }
        return partOf(number, SECOND_OF_DAY);
    }

    private int clockAtPlace(int place) {
        for (int clock = 0; clock < CLOCKS; clock++) {
            if (placeOf(clock) == place) {
                return clock;
            }
        }
        // Not reached: no two CLOCKS share a place, so each place has one.
        return 0;
    }

    private int placeOf(int clock) {
        long number = numberOf(clock);
        int place = 0;
        for (int other = 0; other < CLOCKS; other++) {
            long beside = numberOf(other);
            if (beside < number || beside == number && other < clock) {
                place++;
            }
        }
        return place;
    }

    private boolean isUnlikeEarlier(int clock) {
        for (int earlier = 0; earlier < clock; earlier++) {
            if (numberOf(earlier) == numberOf(clock)) {
                return false;
            }
        }
        return true;
    }

    // ---- reckoning with NUMBERS

    private static long numberOfParts(int hour, int minute, int second, int nano) {
        return (3600L * hour + 60L * minute + second) * SECOND_NANOS + nano;
    }

    private static int partOf(long number, int what) {
        int second = (int) (number / SECOND_NANOS);
        switch (what) {
            case HOUR:
                return second / 3600;
            case MINUTE:
                return second / 60 % 60;
            case SECOND:
                return second % 60;
            case NANO:
                return (int) (number % SECOND_NANOS);
            default:
                return second;
        }
    }

    private static long partNanos(int what) {
        return what >= 0 && what < PART_NANOS.length ? PART_NANOS[what] : 0L;
    }

    private static long unitNanos(int unit) {
        return unit >= 0 && unit < UNIT_NANOS.length ? UNIT_NANOS[unit] : 1L;
    }

    private static long putOn(long number, int unit, long units) {
        long size = unitNanos(unit);
        if (size <= 0) {
            return number;
        }
        long unitsOfDay = DAY_NANOS / size;
        if (unitsOfDay <= 0) {
            return number;
        }
        // Whole days fall out first: the nanos of all units would not fit into a long.
        long nanos = Math.floorMod(units, unitsOfDay) * size;
        return (number + nanos) % DAY_NANOS;
    }

    private static long cutNumber(long number, int unit) {
        long size = unitNanos(unit);
        return size > 0 ? number - number % size : number;
    }

    /** By hand, since the library promises a sign of Long.compare, not that it is -1 or 1. */
    private static int sideOf(long number, long other) {
        if (number < other) {
            return -1;
        }
        return number > other ? 1 : 0;
    }

    private static long unitsBetween(long from, long to, int unit) {
        long size = unitNanos(unit);
        return size > 0 ? (to - from) / size : 0L;
    }

    /** By hand, since append(long) is outside LANGUAGE.md. */
    private static String digits(long value) {
        StringBuilder text = new StringBuilder();
        long rest = Math.abs(value);
        text.append((char) ('0' + rest % 10));
        rest = rest / 10;
        for (int place = 1; place < MOST_DIGITS && rest > 0; place++) {
            text.append((char) ('0' + rest % 10));
            rest = rest / 10;
        }
        if (value < 0) {
            text.append('-');
        }
        return text.reverse().toString();
    }

    // ---- soundness: each promise is looked at by another way than the one by which it is reckoned

    private static boolean partsBelong(long number) {
        for (int what = HOUR; what < PART_ENDS.length; what++) {
            int part = partOf(number, what);
            if (part < 0 || part >= PART_ENDS[what]) {
                return false;
            }
        }
        long whole = numberOfParts(
            partOf(number, HOUR), partOf(number, MINUTE), partOf(number, SECOND), partOf(number, NANO));
        return whole == number && partOf(number, SECOND_OF_DAY) == cutNumber(number, 3) / SECOND_NANOS;
    }

    private static boolean stepsHold(long number) {
        for (int unit = 0; unit < DAY; unit++) {
            for (int i = 0; i < TRIAL_AMOUNTS.length; i++) {
                if (isStepUnit(unit) && !stepHolds(number, unit, TRIAL_AMOUNTS[i])) {
                    return false;
                }
            }
        }
        return true;
    }

    private static boolean stepHolds(long number, int unit, long amount) {
        long later = putOn(number, unit, amount);
        return later == reckonedOn(number, unit, amount) && putOn(later, unit, -amount) == number;
    }

    private static long reckonedOn(long number, int unit, long amount) {
        long size = unitNanos(unit);
        if (size < SECOND_NANOS) {
            return (number + amount * size) % DAY_NANOS;
        }
        // By whole seconds: 100000007 hours in nanos would not fit into a long.
        long seconds = number / SECOND_NANOS + amount * (size / SECOND_NANOS);
        return seconds % DAY_SECONDS * SECOND_NANOS + number % SECOND_NANOS;
    }

    private static boolean cutsHold(long number) {
        for (int unit = 0; unit <= DAY; unit++) {
            long size = unitNanos(unit);
            long whole = cutNumber(number, unit);
            if (whole > number || number - whole >= size || size <= 0 || whole % size != 0) {
                return false;
            }
        }
        return true;
    }

    private static boolean pairHolds(long from, long to) {
        if (comparedByParts(from, to) != sideOf(from, to)) {
            return false;
        }
        for (int unit = 0; unit < DAY; unit++) {
            if (!betweenHolds(to - from, unitsBetween(from, to, unit), unitNanos(unit))) {
                return false;
            }
        }
        return putOn(from, 0, unitsBetween(from, to, 0)) == to;
    }

    private static int comparedByParts(long one, long other) {
        for (int what = HOUR; what <= NANO; what++) {
            int side = sideOf(partOf(one, what), partOf(other, what));
            if (side != 0) {
                return side;
            }
        }
        return 0;
    }

    private static boolean betweenHolds(long difference, long units, long size) {
        long rest = difference - units * size;
        boolean towardsZero = difference < 0 ? units <= 0 && rest <= 0 : units >= 0 && rest >= 0;
        return towardsZero && Math.abs(rest) < size;
    }

    // ---- digest

    private static long digestClock(long digest, long number) {
        long d = digest;
        for (int what = HOUR; what <= SECOND_OF_DAY; what++) {
            d = d * 31 + partOf(number, what);
        }
        return d * 31 + number;
    }

    private static long digestPair(long digest, long first, long other) {
        long d = digest * 31 + sideOf(first, other);
        for (int unit = 0; unit < DAY; unit++) {
            d = d * 31 + unitsBetween(first, other, unit);
        }
        return d;
    }
}
