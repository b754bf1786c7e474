import java.lang.reflect.Field;
import java.lang.reflect.Modifier;

/** Promises 23 to 26 at their edges, and what the document says of all calls: a test for each sentence that names one. */
public final class WholeEdgeTest {
    private static final int[] TRIAL_AMOUNTS = {1, 59, 100000007};
    private static final long[] EDGE_NUMBERS = {
        0L, 1L, 999999999L, 1000000000L, 3599999999999L, 3600000000000L, 43199999999999L, 43200000000000L,
        49062123456789L, 86399000000000L, 86399999999998L, 86399999999999L
    };

    public static void main(String[] args) {
        Check.runAll(WholeEdgeTest.class);
    }

    // ---- the description

    static void descriptionTheLastOf512CallsIsAnsweredToo() {
        Clocksolo knocked = new Clocksolo();
        Clocksolo walked = new Clocksolo();
        Clocksolo asked = new Clocksolo();
        String asAtFirst = new Clocksolo().order();
        for (int call = 1; call < 512; call++) {
            knocked.knock();
            walked.walk(7, 5, -1, 40);
            asked.isSound();
        }
        Check.due("knock()", 512, knocked.knock());
        Check.due("house(1)", 511, walked.house(1));
        Check.due("order()", asAtFirst, asked.order());
    }

    static void descriptionTheLastOf512CallsMayBeRefused() {
        Clocksolo x = new Clocksolo();
        for (int call = 1; call < 512; call++) {
            x.tell(call % 8, call % 24, call % 60, call % 60, call);
        }
        Object got = 0;
        try {
            x.tell(8, 0, 0, 0, 0);
        } catch (RuntimeException e) {
            got = e.getClass();
        }
        Check.due("tell(8, ..)", IndexOutOfBoundsException.class, got);
    }

    static void descriptionARefusedCallChangesNothing() {
        Clocksolo refusing = new Clocksolo();
        Clocksolo beside = new Clocksolo();
        for (int round = 0; round < 20; round++) {
            for (Check.Call call : wrongValues()) {
                refuse(refusing, call);
            }
            Check.due("round " + round, beside.plus(round % 8, 0, round, 7), refusing.plus(round % 8, 0, round, 7));
        }
        Check.due("behind 20 rounds", Check.state(beside), Check.state(refusing));
    }

    private static void refuse(Clocksolo x, Check.Call call) {
        try {
            Check.due("a refused call", "an exception", call.answer(x));
        } catch (IndexOutOfBoundsException | IllegalArgumentException e) {
            // It is due; that the right one of the two comes is looked at elsewhere.
        }
    }

    /** Every method that refuses a value or a UNIT, by one that is just beyond what is allowed. */
    private static Check.Call[] wrongValues() {
        return new Check.Call[] {
            x -> x.tell(0, 1, 1, 1, 1000000000),
            x -> x.tell(0, 24, 1, 1, 1),
            x -> x.tellSecond(0, 86400),
            x -> x.tellNumber(0, 1, 1000000000),
            x -> x.tellKnown(0, 3),
            x -> x.with(0, 3, 1000000000),
            x -> x.with(0, 4, 1),
            x -> x.plus(0, 6, 1, 1),
            x -> x.minus(0, 2, 1, 1),
            x -> x.walk(0, 0, 1, 41),
            x -> x.walk(0, 1, 1, 40),
            x -> x.cut(0, 8),
            x -> x.of(0, 5),
            x -> x.beyond(0, 8),
            x -> x.between(0, 1, 7),
            x -> x.house(2)
        };
    }

    /** Every method with a CLOCK, by one that is not there, in each place where one is named. */
    private static Check.Call[] wrongClocks() {
        return new Check.Call[] {
            x -> x.tell(8, 1, 1, 1, 1),
            x -> x.tellSecond(8, 1),
            x -> x.tellNumber(8, 1, 1),
            x -> x.tellKnown(8, 1),
            x -> x.take(8, 0),
            x -> x.take(0, 8),
            x -> x.with(8, 0, 1),
            x -> x.plus(8, 0, 1, 1),
            x -> x.minus(8, 0, 1, 1),
            x -> x.walk(8, 0, 1, 1),
            x -> x.cut(8, 1),
            x -> x.of(8, 1),
            x -> x.number(8),
            x -> x.text(8),
            x -> x.beyond(8, 1),
            x -> x.compare(8, 0),
            x -> x.compare(0, 8),
            x -> x.isAhead(8, 0),
            x -> x.isAhead(0, 8),
            x -> x.isBehind(8, 0),
            x -> x.isBehind(0, 8),
            x -> x.areAlike(8, 0),
            x -> x.areAlike(0, 8),
            x -> x.between(8, 0, 1),
            x -> x.between(0, 8, 1)
        };
    }

    // ---- 23, knock

    static void promise23TheFirstOneIsOne() {
        Check.due("the first", 1, new Clocksolo().knock());
    }

    static void promise23WithThis() {
        Clocksolo x = new Clocksolo();
        for (int times = 1; times < 256; times++) {
            Check.due("knock " + times, times, x.knock());
            Check.due("house(0) behind it", times, x.house(0));
        }
    }

    static void promise23NothingElseKnocks() {
        Clocksolo x = Check.used();
        x.plus(0, 0, 1, 1);
        for (Check.Call call : wrongValues()) {
            refuse(x, call);
        }
        Check.due("the third", 3, x.knock());
    }

    static void promise23AKnockTouchesNoClock() {
        Clocksolo x = Check.used();
        String before = x.text(0) + x.text(7) + x.order() + x.house(1);
        x.knock();
        Check.due("the clocks", before, x.text(0) + x.text(7) + x.order() + x.house(1));
    }

    // ---- 24, house

    static void promise24WhatIs0Or1() {
        Check.range("what", 0, 2, 1, 8, (x, what) -> x.house(what));
    }

    static void promise24NoneAtFirst() {
        Check.due("knocked", 0, new Clocksolo().house(0));
        Check.due("told", 0, new Clocksolo().house(1));
    }

    static void promise24EachCallOnce() {
        Check.Call[] calls = {
            x -> x.tell(0, 1, 2, 3, 4),
            x -> x.tellSecond(0, 5),
            x -> x.tellNumber(0, 6, 7),
            x -> x.tellKnown(0, 1),
            x -> x.take(0, 7),
            x -> x.with(0, 1, 2),
            x -> x.plus(0, 5, 100, 100),
            x -> x.minus(0, 5, 100, 100),
            x -> x.cut(0, 4)
        };
        countOnce(calls);
    }

    static void promise24AlsoIfNothingIsOther() {
        Check.Call[] calls = {
            x -> x.tell(0, 13, 37, 42, 123456789),
            x -> x.tellSecond(3, 43200),
            x -> x.tellNumber(0, 49062, 123456789),
            x -> x.tellKnown(1, 2),
            x -> x.take(0, 4),
            x -> x.take(0, 0),
            x -> x.with(0, 0, 13),
            x -> x.plus(0, 0, 0, 1),
            x -> x.plus(0, 5, 24, 1),
            x -> x.minus(0, 0, 1, 0),
            x -> x.cut(3, 6),
            x -> x.cut(0, 0)
        };
        countOnce(calls);
    }

    static void promise24WalkOnceHoweverOften() {
        Check.Call[] calls = {
            x -> x.walk(0, 3, 1, 40),
            x -> x.walk(0, 3, 1, 2),
            x -> x.walk(0, 3, 1, 1),
            x -> x.walk(0, 3, 1, 0),
            x -> x.walk(0, 3, 0, 40)
        };
        countOnce(calls);
    }

    private static void countOnce(Check.Call[] calls) {
        for (int i = 0; i < calls.length; i++) {
            Clocksolo x = Check.used();
            calls[i].answer(x);
            Check.due("call " + i, 9, x.house(1));
            Check.due("call " + i + " is no knock", 2, x.house(0));
        }
    }

    static void promise24RefusedCallsAreNotCounted() {
        for (Check.Call call : wrongValues()) {
            Clocksolo x = Check.used();
            refuse(x, call);
            Check.due("a wrong value", "2 8", x.house(0) + " " + x.house(1));
        }
        for (Check.Call call : wrongClocks()) {
            Clocksolo x = Check.used();
            refuse(x, call);
            Check.due("no such clock", "2 8", x.house(0) + " " + x.house(1));
        }
    }

    static void promise24AskingIsNotCounted() {
        Check.Call[] calls = {
            x -> x.of(0, 4), x -> x.number(0), x -> x.text(0), x -> x.beyond(0, 3), x -> x.compare(0, 1),
            x -> x.isAhead(0, 1), x -> x.isBehind(0, 1), x -> x.areAlike(0, 1), x -> x.between(0, 1, 3),
            x -> x.order(), x -> x.kinds(), x -> x.house(0), x -> x.house(1), x -> x.isSound(), x -> x.digest()
        };
        for (int i = 0; i < calls.length; i++) {
            Clocksolo x = Check.used();
            calls[i].answer(x);
            Check.due("call " + i, "2 8", x.house(0) + " " + x.house(1));
        }
    }

    // ---- 25, isSound: what it tells, by the calls themselves, and what it answers

    static void promise25NumberAndPartsBelongTogether() {
        for (long number : EDGE_NUMBERS) {
            Clocksolo x = Check.atNumber(number);
            int second = 3600 * x.of(0, 0) + 60 * x.of(0, 1) + x.of(0, 2);
            Check.due("SECOND of the day at " + number, second, x.of(0, 4));
            Check.due("NUMBER", Long.toString(1000000000L * second + x.of(0, 3)), x.number(0));
            Check.due("isSound", true, x.isSound());
        }
    }

    static void promise25PutOnAndBackItIsAsItWas() {
        for (long number : EDGE_NUMBERS) {
            for (int unit : Check.STEP_UNITS) {
                for (int amount : TRIAL_AMOUNTS) {
                    putOnAndBack(number, unit, amount);
                }
            }
        }
    }

    private static void putOnAndBack(long number, int unit, int amount) {
        Clocksolo x = Check.atNumber(number);
        String what = number + " by " + amount + ", unit " + unit;
        x.plus(0, unit, amount, 1);
        // Whole days are taken out of the UNITS: 100000007 hours in nanos are more than a long holds.
        long rest = amount % (Check.DAY_NANOS / Check.UNIT_NANOS[unit]) * Check.UNIT_NANOS[unit];
        Check.due(what + ", on", Long.toString((number + rest) % Check.DAY_NANOS), x.number(0));
        Check.due(what + ", sound between", true, x.isSound());
        x.minus(0, unit, amount, 1);
        Check.due(what + ", back", Long.toString(number), x.number(0));
    }

    static void promise25CutIsAMultipleAndLessThanOneUnitBelow() {
        for (long number : EDGE_NUMBERS) {
            for (int unit : Check.UNITS) {
                Clocksolo x = Check.atNumber(number);
                x.cut(0, unit);
                long cut = Long.parseLong(x.number(0));
                String what = number + " to unit " + unit;
                Check.due(what + ", not above itself", true, cut <= number);
                Check.due(what + ", less than one unit below", true, number - cut < Check.UNIT_NANOS[unit]);
                Check.due(what + ", a multiple", 0L, cut % Check.UNIT_NANOS[unit]);
                Check.due(what + ", sound", true, x.isSound());
            }
        }
    }

    static void promise25OrderOfEachTwoIsThatOfNumbers() {
        for (long one : EDGE_NUMBERS) {
            for (long other : EDGE_NUMBERS) {
                Clocksolo x = Check.atNumber(one);
                Check.tellNumber(x, 1, other);
                Check.due(one + " and " + other, Long.compare(one, other), x.compare(0, 1));
                Check.due(one + " and " + other + ", sound", true, x.isSound());
            }
        }
    }

    static void promise25BetweenIsTheDifferenceCutTowards0() {
        for (long one : EDGE_NUMBERS) {
            for (long other : EDGE_NUMBERS) {
                Clocksolo x = Check.atNumber(one);
                Check.tellNumber(x, 1, other);
                for (int unit = 0; unit < 7; unit++) {
                    String units = Long.toString((other - one) / Check.UNIT_NANOS[unit]);
                    Check.due(one + " to " + other + ", unit " + unit, units, x.between(0, 1, unit));
                }
            }
        }
    }

    static void promise25PutOnByWhatLiesBetweenTheyAreAlike() {
        for (long one : EDGE_NUMBERS) {
            for (long other : EDGE_NUMBERS) {
                Clocksolo x = Check.atNumber(one);
                Check.tellNumber(x, 1, other);
                long nanos = Long.parseLong(x.between(0, 1, 0));
                x.plus(0, 0, 1000000000, (int) (nanos / 1000000000L));
                x.plus(0, 0, (int) (nanos % 1000000000L), 1);
                Check.due(one + " put on to " + other, true, x.areAlike(0, 1));
            }
        }
    }

    static void promise25SoundAtEachEdge() {
        Check.due("a new one", true, new Clocksolo().isSound());
        Check.due("all alike", true, Check.even().isSound());
        Check.due("of all sorts", true, Check.used().isSound());
        Clocksolo x = new Clocksolo();
        for (int clock = 0; clock < 8; clock++) {
            x.tellKnown(clock, 2);
        }
        Check.due("all last", true, x.isSound());
        x.tellKnown(7, 0);
        Check.due("the first and the last", true, x.isSound());
    }

    static void promise25SoundBehindEachIntEdge() {
        for (int unit : Check.STEP_UNITS) {
            Clocksolo x = Check.used();
            for (int i = 0; i < Check.INT_EDGES.length; i++) {
                x.plus(i, unit, Check.INT_EDGES[i], Integer.MIN_VALUE);
                x.minus(i, unit, Check.INT_EDGES[i], Integer.MAX_VALUE);
                x.walk(7, unit, Check.INT_EDGES[i], 40);
            }
            Check.due("unit " + unit, true, x.isSound());
        }
    }

    static void promise25SoundBehindRefusedCalls() {
        Clocksolo x = Check.used();
        for (Check.Call call : wrongValues()) {
            refuse(x, call);
        }
        for (Check.Call call : wrongClocks()) {
            refuse(x, call);
        }
        Check.due("behind refused calls", true, x.isSound());
    }

    /** No run of calls makes a CLOCK unsound, so this one reaches into the object. */
    static void promise25NotSoundIfAClockIsSpoiled() throws IllegalAccessException {
        for (int clock = 0; clock < 8; clock++) {
            for (long number : new long[] {-1L, Check.DAY_NANOS, Long.MIN_VALUE, Long.MAX_VALUE}) {
                Clocksolo x = Check.used();
                numbersOf(x)[clock] = number;
                Check.due("clock " + clock + " at " + number, false, x.isSound());
            }
        }
    }

    static void promise26IsSoundCountsIntoIt() throws IllegalAccessException {
        Clocksolo x = Check.used();
        numbersOf(x)[7] = Check.DAY_NANOS;
        Check.due("not sound", Check.digestByTheFace(x), x.digest());
    }

    private static long[] numbersOf(Clocksolo x) throws IllegalAccessException {
        for (Field field : Clocksolo.class.getDeclaredFields()) {
            field.setAccessible(true);
            if (field.getType() == long[].class && field.get(x) instanceof long[] numbers && numbers.length == 8
                    && !Modifier.isStatic(field.getModifiers())) {
                return numbers;
            }
        }
        throw new IllegalStateException("the clocks are held in another way now: spoil them as they are held");
    }

    // ---- 26, digest

    static void promise26ByHandReckonedOnes() {
        Check.due("a new one", -3802058015114426150L, new Clocksolo().digest());
        Check.due("of all sorts", 2515797741300848051L, Check.used().digest());
        Clocksolo x = new Clocksolo();
        x.tellKnown(0, 2);
        Check.due("0 the last, all others ahead of it", -5656579706923166600L, x.digest());
        for (int clock = 1; clock < 8; clock++) {
            x.tellKnown(clock, 2);
        }
        Check.due("all last", 6945761648894410130L, x.digest());
        Clocksolo other = new Clocksolo();
        other.tellKnown(7, 2);
        Check.due("7 the last", 2998394610211715880L, other.digest());
    }

    static void promise26KnocksAndChangesCountIntoIt() {
        Clocksolo knocked = new Clocksolo();
        knocked.knock();
        Check.due("one knock", 2275501178683948187L, knocked.digest());
        Clocksolo oftenKnocked = new Clocksolo();
        for (int knock = 1; knock < 512; knock++) {
            oftenKnocked.knock();
        }
        Check.due("511 knocks, the last call", 2777685632650188569L, oftenKnocked.digest());
        Clocksolo changed = new Clocksolo();
        changed.cut(0, 0);
        Check.due("one change that makes nothing other", -8961514062520477447L, changed.digest());
    }

    static void promise26EachClockCountsIntoIt() {
        for (int clock = 0; clock < 8; clock++) {
            Clocksolo x = Check.even();
            x.plus(clock, 0, 1, 1);
            Check.due("clock " + clock + " a nano on", Check.digestByTheFace(x), x.digest());
            x.tellKnown(clock, 2);
            Check.due("clock " + clock + " the last", Check.digestByTheFace(x), x.digest());
        }
    }

    static void promise26AskingChangesNothing() {
        Clocksolo x = Check.used();
        Check.due("asked once", 2515797741300848051L, x.digest());
        Check.due("asked again", 2515797741300848051L, x.digest());
    }
}
