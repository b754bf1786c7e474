import java.math.BigInteger;

/** Promises 7 to 11 at their edges: a test for each sentence that names one. */
public final class ChangingEdgeTest {
    private static final int LAST_NANO = 999999999;
    private static final int LEAST = Integer.MIN_VALUE;
    private static final int GREATEST = Integer.MAX_VALUE;
    private static final int[] STEP_UNITS = Check.STEP_UNITS;
    private static final long[] STARTS = {
        0L, 1L, 3599999999999L, 3600000000000L, 43199999999999L, 43200000000000L, 49062123456789L, 86399999999998L,
        86399999999999L
    };

    public static void main(String[] args) {
        Check.runAll(ChangingEdgeTest.class);
    }

    // ---- 7, with

    static void promise7ClockIs0To7() {
        Check.clocks("with", 13, (x, clock) -> x.with(clock, 0, 1));
        Check.clocks("with", 123456789, (x, clock) -> x.with(clock, 3, 1));
    }

    static void promise7WhatIs0To3() {
        Check.range("what", 0, 13, 3, 123456789, (x, what) -> x.with(0, what, 0));
    }

    static void promise7HourIs0To23() {
        Check.range("hour", 0, 23, 23, 23, (x, hour) -> x.with(1, 0, hour));
        Check.due("least", "0:59:59.999999999", lastWith(0, 0));
        Check.due("greatest", "23:0:0.0", firstWith(0, 23));
    }

    static void promise7MinuteIs0To59() {
        Check.range("minute", 0, 59, 59, 59, (x, minute) -> x.with(1, 1, minute));
        Check.due("least", "23:0:59.999999999", lastWith(1, 0));
        Check.due("greatest", "0:59:0.0", firstWith(1, 59));
    }

    static void promise7SecondIs0To59() {
        Check.range("second", 0, 59, 59, 59, (x, second) -> x.with(1, 2, second));
        Check.due("least", "23:59:0.999999999", lastWith(2, 0));
        Check.due("greatest", "0:0:59.0", firstWith(2, 59));
    }

    static void promise7NanoIs0To999999999() {
        Check.range("nano", 0, LAST_NANO, LAST_NANO, LAST_NANO, (x, nano) -> x.with(1, 3, nano));
        Check.due("least", "23:59:59.0", lastWith(3, 0));
        Check.due("greatest", "0:0:0.999999999", firstWith(3, LAST_NANO));
    }

    private static String lastWith(int what, int value) {
        Clocksolo x = Check.at(23, 59, 59, LAST_NANO);
        x.with(0, what, value);
        return x.text(0);
    }

    private static String firstWith(int what, int value) {
        Clocksolo x = Check.at(0, 0, 0, 0);
        x.with(0, what, value);
        return x.text(0);
    }

    static void promise7APartMayBeWhatAnotherMayNot() {
        Check.illegal("hour 59", x -> x.with(0, 0, 59));
        Check.due("minute 24", 37, Check.used().with(0, 1, 24));
        Check.illegal("minute 100", x -> x.with(0, 1, 100));
        Check.illegal("second 100", x -> x.with(0, 2, 100));
        Check.due("nano 60", 123456789, Check.used().with(0, 3, 60));
    }

    static void promise7AsItIsAlready() {
        int[] last = {23, 59, 59, LAST_NANO};
        for (int what = 0; what < 4; what++) {
            Clocksolo x = Check.at(23, 59, 59, LAST_NANO);
            Check.due("what " + what, last[what], x.with(0, what, last[what]));
            Check.due("what " + what, "23:59:59.999999999", x.text(0));
        }
    }

    static void promise7NoClockIsNamedFirst() {
        Check.outOfBounds("with what", x -> x.with(-1, -1, 0));
        Check.outOfBounds("with what", x -> x.with(8, 4, 0));
        Check.outOfBounds("with value", x -> x.with(8, 0, 24));
        Check.outOfBounds("with both", x -> x.with(-1, 4, -1));
    }

    // ---- 8, plus

    static void promise8ClockIs0To7() {
        Check.clocks("plus", 49063, (x, clock) -> x.plus(clock, 3, 1, 1));
    }

    static void promise8UnitIs0Or3To5() {
        Check.stepUnits("plus", (x, unit) -> x.plus(0, unit, 1, 1));
    }

    static void promise8EachUnit() {
        String[] on = {"13:37:42.123456790", "13:37:43.123456789", "13:38:42.123456789", "14:37:42.123456789"};
        for (int i = 0; i < on.length; i++) {
            Clocksolo x = Check.used();
            x.plus(0, STEP_UNITS[i], 1, 1);
            Check.due("unit " + STEP_UNITS[i], on[i], x.text(0));
        }
    }

    static void promise8OverMidnightOn() {
        String[] on = {"0:0:0.0", "0:0:0.999999999", "0:0:59.999999999", "0:59:59.999999999"};
        int[] seconds = {0, 0, 59, 3599};
        for (int i = 0; i < on.length; i++) {
            Clocksolo x = Check.at(23, 59, 59, LAST_NANO);
            Check.due("unit " + STEP_UNITS[i], seconds[i], x.plus(0, STEP_UNITS[i], 1, 1));
            Check.due("unit " + STEP_UNITS[i], on[i], x.text(0));
        }
    }

    static void promise8AmountBelow0IsBackOverMidnight() {
        String[] back = {"23:59:59.999999999", "23:59:59.0", "23:59:0.0", "23:0:0.0"};
        int[] seconds = {86399, 86399, 86340, 82800};
        for (int i = 0; i < back.length; i++) {
            Clocksolo x = new Clocksolo();
            Check.due("unit " + STEP_UNITS[i], seconds[i], x.plus(0, STEP_UNITS[i], -1, 1));
            Check.due("unit " + STEP_UNITS[i], back[i], x.text(0));
        }
    }

    static void promise8UpToMidnightAndOntoIt() {
        Check.due("to the last hour", 82800, new Clocksolo().plus(0, 5, 23, 1));
        Check.due("to the last minute", 86340, new Clocksolo().plus(0, 4, 1439, 1));
        Check.due("to the last second", 86399, new Clocksolo().plus(0, 3, 86399, 1));
        Check.due("onto midnight by hours", 0, new Clocksolo().plus(0, 5, 24, 1));
        Check.due("onto midnight by minutes", 0, new Clocksolo().plus(0, 4, 1440, 1));
        Check.due("onto midnight by seconds", 0, new Clocksolo().plus(0, 3, 86400, 1));
        Clocksolo x = Check.at(23, 59, 59, 999999998);
        Check.due("to the last nano", 86399, x.plus(0, 0, 1, 1));
        Check.due("onto midnight by nanos", 0, x.plus(0, 0, 1, 1));
    }

    static void promise8AWholeDayIsAsItWas() {
        for (int sign = -1; sign <= 1; sign += 2) {
            for (long start : STARTS) {
                Clocksolo x = Check.atNumber(start);
                x.plus(0, 5, 24, sign);
                x.plus(0, 4, 1440, sign);
                x.plus(0, 3, 86400, sign);
                x.plus(0, 0, 1000000000, 86400 * sign);
                Check.due("from " + start, Long.toString(start), x.number(0));
            }
        }
    }

    static void promise8OverTheEdgesOfParts() {
        Check.due("into the next second", "1:2:4.0", onFrom(1, 2, 3, LAST_NANO, 0));
        Check.due("into the next minute", "1:3:0.0", onFrom(1, 2, 59, LAST_NANO, 0));
        Check.due("into the next hour", "2:0:0.0", onFrom(1, 59, 59, LAST_NANO, 0));
        Check.due("a second into the next hour", "2:0:0.7", onFrom(1, 59, 59, 7, 3));
        Check.due("a minute into the next hour", "2:0:58.7", onFrom(1, 59, 58, 7, 4));
        Check.due("into noon", "12:0:0.0", onFrom(11, 59, 59, LAST_NANO, 0));
    }

    private static String onFrom(int hour, int minute, int second, int nano, int unit) {
        Clocksolo x = Check.at(hour, minute, second, nano);
        x.plus(0, unit, 1, 1);
        return x.text(0);
    }

    static void promise8Amount0OrTimes0IsAsItWas() {
        for (int unit : STEP_UNITS) {
            for (int any : Check.INT_EDGES) {
                Clocksolo x = Check.used();
                Check.due("no amount", 86399, x.plus(1, unit, 0, any));
                Check.due("no times", 86399, x.plus(1, unit, any, 0));
                Check.due("as it was", "23:59:59.999999999", x.text(1));
            }
        }
    }

    static void promise8TimesBelow0IsBack() {
        Check.due("on by both", 10, new Clocksolo().plus(0, 3, 2, 5));
        Check.due("back by times", 86390, new Clocksolo().plus(0, 3, 2, -5));
        Check.due("back by amount", 86390, new Clocksolo().plus(0, 3, -2, 5));
        Check.due("on by both below 0", 10, new Clocksolo().plus(0, 3, -2, -5));
    }

    static void promise8AmountIsAnyInt() {
        String[] least = {"23:59:57.852516352", "20:45:52.0", "21:52:0.0", "16:0:0.0"};
        String[] greatest = {"0:0:2.147483647", "3:14:7.0", "2:7:0.0", "7:0:0.0"};
        for (int i = 0; i < least.length; i++) {
            Check.due("least, unit " + STEP_UNITS[i], least[i], putOn(STEP_UNITS[i], LEAST, 1));
            Check.due("greatest, unit " + STEP_UNITS[i], greatest[i], putOn(STEP_UNITS[i], GREATEST, 1));
        }
    }

    static void promise8TimesIsAnyInt() {
        String[] least = {"23:59:57.852516352", "20:45:52.0", "21:52:0.0", "16:0:0.0"};
        String[] greatest = {"0:0:2.147483647", "3:14:7.0", "2:7:0.0", "7:0:0.0"};
        for (int i = 0; i < least.length; i++) {
            Check.due("least, unit " + STEP_UNITS[i], least[i], putOn(STEP_UNITS[i], 1, LEAST));
            Check.due("greatest, unit " + STEP_UNITS[i], greatest[i], putOn(STEP_UNITS[i], 1, GREATEST));
        }
    }

    static void promise8LeastIntTimesMinus1IsOn() {
        String[] on = {"0:0:2.147483648", "3:14:8.0", "2:8:0.0", "8:0:0.0"};
        for (int i = 0; i < on.length; i++) {
            Check.due("amount, unit " + STEP_UNITS[i], on[i], putOn(STEP_UNITS[i], LEAST, -1));
            Check.due("times, unit " + STEP_UNITS[i], on[i], putOn(STEP_UNITS[i], -1, LEAST));
        }
    }

    static void promise8ReckonedWithoutBound() {
        String[] leastTwice = {"23:53:38.427387904", "7:45:4.0", "9:4:0.0", "16:0:0.0"};
        String[] greatestTwice = {"23:53:34.132420609", "1:16:49.0", "4:49:0.0", "1:0:0.0"};
        String[] leastAndGreatest = {"0:6:23.720095744", "19:29:4.0", "17:4:0.0", "16:0:0.0"};
        for (int i = 0; i < leastTwice.length; i++) {
            int unit = STEP_UNITS[i];
            Check.due("least twice, unit " + unit, leastTwice[i], putOn(unit, LEAST, LEAST));
            Check.due("greatest twice, unit " + unit, greatestTwice[i], putOn(unit, GREATEST, GREATEST));
            Check.due("least and greatest, unit " + unit, leastAndGreatest[i], putOn(unit, LEAST, GREATEST));
            Check.due("greatest and least, unit " + unit, leastAndGreatest[i], putOn(unit, GREATEST, LEAST));
        }
    }

    private static String putOn(int unit, int amount, int times) {
        Clocksolo x = new Clocksolo();
        x.plus(0, unit, amount, times);
        return x.text(0);
    }

    static void promise8IntEdgesFromEachStart() {
        fromEachStart(1);
    }

    static void promise9IntEdgesFromEachStart() {
        fromEachStart(-1);
    }

    /** The sign is 1 for plus(), -1 for minus(). */
    private static void fromEachStart(int sign) {
        for (int unit : STEP_UNITS) {
            for (int amount : Check.INT_EDGES) {
                for (int times : Check.INT_EDGES) {
                    for (long start : STARTS) {
                        lookAtOne(sign, start, unit, amount, times);
                    }
                }
            }
        }
    }

    private static void lookAtOne(int sign, long start, int unit, int amount, int times) {
        Clocksolo x = Check.atNumber(start);
        long now = moved(start, unit, product(sign, product(amount, BigInteger.valueOf(times))));
        int second = sign == 1 ? x.plus(0, unit, amount, times) : x.minus(0, unit, amount, times);
        String what = start + " by " + sign + " * " + amount + " * " + times + ", unit " + unit;
        Check.due(what, (int) (now / 1000000000L), second);
        Check.due(what, Long.toString(now), x.number(0));
    }

    private static BigInteger product(int one, BigInteger other) {
        return BigInteger.valueOf(one).multiply(other);
    }

    private static long moved(long number, int unit, BigInteger units) {
        BigInteger nanos = units.multiply(BigInteger.valueOf(Check.UNIT_NANOS[unit]));
        return nanos.add(BigInteger.valueOf(number)).mod(BigInteger.valueOf(Check.DAY_NANOS)).longValueExact();
    }

    static void promise8NoClockIsNamedFirst() {
        Check.outOfBounds("below", x -> x.plus(-1, -1, 1, 1));
        Check.outOfBounds("above", x -> x.plus(8, 2, LEAST, LEAST));
    }

    // ---- 9, minus

    static void promise9ClockIs0To7() {
        Check.clocks("minus", 49061, (x, clock) -> x.minus(clock, 3, 1, 1));
    }

    static void promise9UnitIs0Or3To5() {
        Check.stepUnits("minus", (x, unit) -> x.minus(0, unit, 1, 1));
    }

    static void promise9EachUnit() {
        String[] back = {"13:37:42.123456788", "13:37:41.123456789", "13:36:42.123456789", "12:37:42.123456789"};
        for (int i = 0; i < back.length; i++) {
            Clocksolo x = Check.used();
            x.minus(0, STEP_UNITS[i], 1, 1);
            Check.due("unit " + STEP_UNITS[i], back[i], x.text(0));
        }
    }

    static void promise9OverMidnightBack() {
        String[] back = {"23:59:59.999999999", "23:59:59.0", "23:59:0.0", "23:0:0.0"};
        int[] seconds = {86399, 86399, 86340, 82800};
        for (int i = 0; i < back.length; i++) {
            Clocksolo x = new Clocksolo();
            Check.due("unit " + STEP_UNITS[i], seconds[i], x.minus(0, STEP_UNITS[i], 1, 1));
            Check.due("unit " + STEP_UNITS[i], back[i], x.text(0));
        }
    }

    static void promise9AmountBelow0IsOnOverMidnight() {
        String[] on = {"0:0:0.0", "0:0:0.999999999", "0:0:59.999999999", "0:59:59.999999999"};
        int[] seconds = {0, 0, 59, 3599};
        for (int i = 0; i < on.length; i++) {
            Clocksolo x = Check.at(23, 59, 59, LAST_NANO);
            Check.due("unit " + STEP_UNITS[i], seconds[i], x.minus(0, STEP_UNITS[i], -1, 1));
            Check.due("unit " + STEP_UNITS[i], on[i], x.text(0));
        }
    }

    static void promise9BackToMidnightIsNotOverIt() {
        Check.due("by an hour", 0, Check.at(1, 0, 0, 0).minus(0, 5, 1, 1));
        Check.due("by a minute", 0, Check.at(0, 1, 0, 0).minus(0, 4, 1, 1));
        Check.due("by a second", 0, Check.at(0, 0, 1, 0).minus(0, 3, 1, 1));
        Clocksolo x = Check.at(0, 0, 0, 1);
        Check.due("by a nano", 0, x.minus(0, 0, 1, 1));
        Check.due("by a nano", "0:0:0.0", x.text(0));
    }

    static void promise9AWholeDayIsAsItWas() {
        for (int sign = -1; sign <= 1; sign += 2) {
            for (long start : STARTS) {
                Clocksolo x = Check.atNumber(start);
                x.minus(0, 5, 24, sign);
                x.minus(0, 4, 1440, sign);
                x.minus(0, 3, 86400, sign);
                x.minus(0, 0, 1000000000, 86400 * sign);
                Check.due("from " + start, Long.toString(start), x.number(0));
            }
        }
    }

    static void promise9Amount0OrTimes0IsAsItWas() {
        for (int unit : STEP_UNITS) {
            for (int any : Check.INT_EDGES) {
                Clocksolo x = Check.used();
                Check.due("no amount", 0, x.minus(2, unit, 0, any));
                Check.due("no times", 0, x.minus(2, unit, any, 0));
                Check.due("as it was", "0:0:0.1", x.text(2));
            }
        }
    }

    static void promise9TimesBelow0IsOn() {
        Check.due("back by both", 86390, new Clocksolo().minus(0, 3, 2, 5));
        Check.due("on by times", 10, new Clocksolo().minus(0, 3, 2, -5));
        Check.due("on by amount", 10, new Clocksolo().minus(0, 3, -2, 5));
        Check.due("back by both below 0", 86390, new Clocksolo().minus(0, 3, -2, -5));
    }

    static void promise9AmountIsAnyInt() {
        String[] least = {"0:0:2.147483648", "3:14:8.0", "2:8:0.0", "8:0:0.0"};
        String[] greatest = {"23:59:57.852516353", "20:45:53.0", "21:53:0.0", "17:0:0.0"};
        for (int i = 0; i < least.length; i++) {
            Check.due("least, unit " + STEP_UNITS[i], least[i], putBack(STEP_UNITS[i], LEAST, 1));
            Check.due("greatest, unit " + STEP_UNITS[i], greatest[i], putBack(STEP_UNITS[i], GREATEST, 1));
        }
    }

    static void promise9TimesIsAnyInt() {
        String[] least = {"0:0:2.147483648", "3:14:8.0", "2:8:0.0", "8:0:0.0"};
        String[] greatest = {"23:59:57.852516353", "20:45:53.0", "21:53:0.0", "17:0:0.0"};
        for (int i = 0; i < least.length; i++) {
            Check.due("least, unit " + STEP_UNITS[i], least[i], putBack(STEP_UNITS[i], 1, LEAST));
            Check.due("greatest, unit " + STEP_UNITS[i], greatest[i], putBack(STEP_UNITS[i], 1, GREATEST));
        }
    }

    static void promise9LeastIntTimesMinus1IsBack() {
        String[] back = {"23:59:57.852516352", "20:45:52.0", "21:52:0.0", "16:0:0.0"};
        for (int i = 0; i < back.length; i++) {
            Check.due("amount, unit " + STEP_UNITS[i], back[i], putBack(STEP_UNITS[i], LEAST, -1));
            Check.due("times, unit " + STEP_UNITS[i], back[i], putBack(STEP_UNITS[i], -1, LEAST));
        }
    }

    static void promise9ReckonedWithoutBound() {
        String[] leastTwice = {"0:6:21.572612096", "16:14:56.0", "14:56:0.0", "8:0:0.0"};
        String[] greatestTwice = {"0:6:25.867579391", "22:43:11.0", "19:11:0.0", "23:0:0.0"};
        String[] leastAndGreatest = {"23:53:36.279904256", "4:30:56.0", "6:56:0.0", "8:0:0.0"};
        for (int i = 0; i < leastTwice.length; i++) {
            int unit = STEP_UNITS[i];
            Check.due("least twice, unit " + unit, leastTwice[i], putBack(unit, LEAST, LEAST));
            Check.due("greatest twice, unit " + unit, greatestTwice[i], putBack(unit, GREATEST, GREATEST));
            Check.due("least and greatest, unit " + unit, leastAndGreatest[i], putBack(unit, LEAST, GREATEST));
            Check.due("greatest and least, unit " + unit, leastAndGreatest[i], putBack(unit, GREATEST, LEAST));
        }
    }

    private static String putBack(int unit, int amount, int times) {
        Clocksolo x = new Clocksolo();
        x.minus(0, unit, amount, times);
        return x.text(0);
    }

    static void promise9NoClockIsNamedFirst() {
        Check.outOfBounds("below", x -> x.minus(-1, -1, 1, 1));
        Check.outOfBounds("above", x -> x.minus(8, 2, LEAST, LEAST));
    }

    // ---- 10, walk

    static void promise10ClockIs0To7() {
        Check.clocks("walk", 1, (x, clock) -> x.walk(clock, 5, 11, 1));
    }

    static void promise10UnitIs0Or3To5() {
        Check.stepUnits("walk", (x, unit) -> x.walk(0, unit, 1, 1));
    }

    static void promise10TimesIs0To40() {
        Check.range("times", 0, 0, 40, 2, (x, times) -> x.walk(3, 5, 1, times));
    }

    static void promise10TimesIsLookedAtThoughNothingIsPutOn() {
        Check.illegal("amount 0, 41 times", x -> x.walk(0, 5, 0, 41));
        Check.illegal("amount 0, -1 times", x -> x.walk(0, 5, 0, -1));
    }

    static void promise10LeastAndGreatestTimes() {
        Check.due("0 times", "12:0:0.0", walked(3, 1, 0));
        Check.due("once", "12:0:1.0", walked(3, 1, 1));
        Check.due("39 times", "12:0:39.0", walked(3, 1, 39));
        Check.due("40 times", "12:0:40.0", walked(3, 1, 40));
    }

    private static String walked(int unit, int amount, int times) {
        Clocksolo x = Check.at(12, 0, 0, 0);
        x.walk(0, unit, amount, times);
        return x.text(0);
    }

    static void promise10EachUnit() {
        String[] on = {"12:0:0.280", "12:4:40.0", "16:40:0.0", "4:0:0.0"};
        for (int i = 0; i < on.length; i++) {
            Check.due("unit " + STEP_UNITS[i], on[i], walked(STEP_UNITS[i], 7, 40));
        }
    }

    static void promise10OntoMidnightIsASmallerNumber() {
        Check.due("up to it", 0, Check.at(23, 59, 59, 999999998).walk(0, 0, 1, 1));
        Check.due("onto it", 1, Check.at(23, 59, 59, 999999998).walk(0, 0, 1, 2));
        Check.due("beyond it", 1, Check.at(23, 59, 59, 999999998).walk(0, 0, 1, 3));
    }

    static void promise10OverMidnightOn() {
        int[] counted = {1, 1, 1, 1};
        String[] on = {"0:0:0.1", "0:0:1.999999999", "0:1:59.999999999", "1:59:59.999999999"};
        for (int i = 0; i < on.length; i++) {
            Clocksolo x = Check.at(23, 59, 59, LAST_NANO);
            Check.due("unit " + STEP_UNITS[i], counted[i], x.walk(0, STEP_UNITS[i], 1, 2));
            Check.due("unit " + STEP_UNITS[i], on[i], x.text(0));
        }
    }

    static void promise10OverMidnightBackIsAGreaterNumber() {
        String[] back = {"23:59:59.999999998", "23:59:58.0", "23:58:0.0", "22:0:0.0"};
        for (int i = 0; i < back.length; i++) {
            Clocksolo x = new Clocksolo();
            Check.due("unit " + STEP_UNITS[i], 1, x.walk(0, STEP_UNITS[i], -1, 2));
            Check.due("unit " + STEP_UNITS[i], back[i], x.text(0));
        }
    }

    static void promise10BackOntoMidnightIsASmallerNumber() {
        Check.due("onto it", 1, Check.at(0, 0, 0, 1).walk(0, 0, -1, 1));
        Check.due("onto it and over it", 1, Check.at(0, 0, 0, 1).walk(0, 0, -1, 2));
    }

    static void promise10MoreThanOnceOverMidnight() {
        Check.due("13 hours on, 40 times", 21, new Clocksolo().walk(0, 5, 13, 40));
        Check.due("23 hours on, 40 times", 38, new Clocksolo().walk(0, 5, 23, 40));
        Check.due("a day and an hour on, 40 times", 1, new Clocksolo().walk(0, 5, 25, 40));
    }

    static void promise10AsSmallANumberIsNotSmaller() {
        int[] ofDay = {0, 86400, 1440, 24};
        for (int i = 1; i < ofDay.length; i++) {
            for (int sign = -1; sign <= 1; sign++) {
                Clocksolo x = Check.used();
                Check.due("unit " + STEP_UNITS[i], 0, x.walk(1, STEP_UNITS[i], sign * ofDay[i], 40));
                Check.due("unit " + STEP_UNITS[i], "23:59:59.999999999", x.text(1));
            }
        }
        Check.due("no nano", 0, Check.used().walk(1, 0, 0, 40));
    }

    static void promise10AmountIsAnyInt() {
        int[] countedOfLeast = {39, 34, 36, 26};
        String[] least = {"23:58:34.100654080", "14:34:40.0", "10:40:0.0", "16:0:0.0"};
        int[] countedOfGreatest = {0, 5, 3, 11};
        String[] greatest = {"0:1:25.899345880", "9:24:40.0", "12:40:0.0", "16:0:0.0"};
        for (int i = 0; i < least.length; i++) {
            Clocksolo x = new Clocksolo();
            Check.due("least, unit " + STEP_UNITS[i], countedOfLeast[i], x.walk(0, STEP_UNITS[i], LEAST, 40));
            Check.due("least, unit " + STEP_UNITS[i], least[i], x.text(0));
            Check.due("greatest, unit " + STEP_UNITS[i], countedOfGreatest[i], x.walk(1, STEP_UNITS[i], GREATEST, 40));
            Check.due("greatest, unit " + STEP_UNITS[i], greatest[i], x.text(1));
        }
    }

    static void promise10IsPlusAgainAndAgain() {
        for (int unit : STEP_UNITS) {
            for (int amount : Check.INT_EDGES) {
                Clocksolo x = Check.used();
                int smaller = 0;
                for (int time = 0; time < 40; time++) {
                    long ahead = Long.parseLong(x.number(0));
                    x.plus(0, unit, amount, 1);
                    smaller += Long.parseLong(x.number(0)) < ahead ? 1 : 0;
                }
                Check.due("amount " + amount + ", unit " + unit, smaller, x.walk(4, unit, amount, 40));
                Check.due("amount " + amount + ", unit " + unit, x.text(0), x.text(4));
            }
        }
    }

    static void promise10NoClockIsNamedFirst() {
        Check.outOfBounds("with unit", x -> x.walk(-1, 1, 1, 1));
        Check.outOfBounds("with times", x -> x.walk(8, 0, 1, 41));
        Check.outOfBounds("with both", x -> x.walk(8, 6, LEAST, -1));
    }

    // ---- 11, cut

    static void promise11ClockIs0To7() {
        Check.clocks("cut", 46800, (x, clock) -> x.cut(clock, 5));
    }

    static void promise11UnitIs0To7() {
        Check.range("unit", 0, 86399, 7, 0, (x, unit) -> x.cut(1, unit));
    }

    static void promise11TheLastOneToEachUnit() {
        String[] cut = {
            "23:59:59.999999999", "23:59:59.999999000", "23:59:59.999000000", "23:59:59.0", "23:59:0.0", "23:0:0.0",
            "12:0:0.0", "0:0:0.0"
        };
        int[] seconds = {86399, 86399, 86399, 86399, 86340, 82800, 43200, 0};
        for (int unit : Check.UNITS) {
            Clocksolo x = Check.at(23, 59, 59, LAST_NANO);
            Check.due("unit " + unit, seconds[unit], x.cut(0, unit));
            Check.due("unit " + unit, cut[unit], x.text(0));
        }
    }

    static void promise11TheFirstOneToEachUnit() {
        for (int unit : Check.UNITS) {
            Clocksolo x = new Clocksolo();
            Check.due("unit " + unit, 0, x.cut(0, unit));
            Check.due("unit " + unit, "0:0:0.0", x.text(0));
        }
    }

    static void promise11OneUnitStaysAndANanoLessIsCut() {
        for (int unit = 0; unit < 7; unit++) {
            long size = Check.UNIT_NANOS[unit];
            Check.due("one unit " + unit, Long.toString(size), cut(size, unit));
            Check.due("a nano less", Long.toString(unit == 0 ? size - 1 : 0), cut(size - 1, unit));
            Check.due("a nano more", Long.toString(unit == 0 ? size + 1 : size), cut(size + 1, unit));
        }
    }

    private static String cut(long number, int unit) {
        Clocksolo x = Check.atNumber(number);
        x.cut(0, unit);
        return x.number(0);
    }

    static void promise11NoonToHalfADay() {
        Check.due("a nano ahead of noon", "0", cut(43199999999999L, 6));
        Check.due("noon", "43200000000000", cut(43200000000000L, 6));
        Check.due("the last one", "43200000000000", cut(86399999999999L, 6));
    }

    static void promise11CutAgainIsAsItWas() {
        for (int unit : Check.UNITS) {
            Clocksolo x = Check.used();
            x.cut(0, unit);
            String once = x.text(0);
            x.cut(0, unit);
            Check.due("unit " + unit, once, x.text(0));
        }
    }

    static void promise11NoClockIsNamedFirst() {
        Check.outOfBounds("below", x -> x.cut(-1, -1));
        Check.outOfBounds("above", x -> x.cut(8, 8));
    }
}
