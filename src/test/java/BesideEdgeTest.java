/** Promises 16 to 22 at their edges: a test for each sentence that names one. */
public final class BesideEdgeTest {
    private static final int LAST_NANO = 999999999;
    private static final long[] RISING = {
        0L, 1L, 999999999L, 1000000000L, 43199999999999L, 43200000000000L, 86399999999998L, 86399999999999L
    };

    public static void main(String[] args) {
        Check.runAll(BesideEdgeTest.class);
    }

    /** CLOCK by CLOCK a greater NUMBER, from the first one of the day to the last one. */
    private static Clocksolo rising() {
        Clocksolo x = new Clocksolo();
        for (int clock = 0; clock < 8; clock++) {
            Check.tellNumber(x, clock, RISING[clock]);
        }
        return x;
    }

    private static Clocksolo two(long one, long other) {
        Clocksolo x = Check.atNumber(one);
        Check.tellNumber(x, 1, other);
        return x;
    }

    // ---- 16, compare

    static void promise16ClockIs0To7() {
        Check.clocks("compare", 0, (x, clock) -> x.compare(clock, 7 - clock));
    }

    static void promise16OtherIs0To7() {
        Check.clocks("compare", 0, (x, other) -> x.compare(7 - other, other));
        Check.noClocks("compare, both", (x, clock) -> x.compare(clock, clock));
    }

    static void promise16EachBesideEach() {
        Clocksolo x = rising();
        for (int clock = 0; clock < 8; clock++) {
            for (int other = 0; other < 8; other++) {
                Check.due(clock + " beside " + other, Integer.compare(clock, other), x.compare(clock, other));
            }
        }
    }

    static void promise16ANanoApart() {
        Check.due("ahead", -1, two(86399999999998L, 86399999999999L).compare(0, 1));
        Check.due("behind", 1, two(86399999999999L, 86399999999998L).compare(0, 1));
    }

    static void promise16ADayLessANanoApart() {
        Check.due("ahead", -1, two(0L, 86399999999999L).compare(0, 1));
        Check.due("behind", 1, two(86399999999999L, 0L).compare(0, 1));
    }

    static void promise16AGreaterPartCountsMoreThanASmallerOne() {
        Clocksolo x = Check.at(1, 59, 59, LAST_NANO);
        x.tell(1, 2, 0, 0, 0);
        Check.due("HOUR", -1, x.compare(0, 1));
        x.tell(0, 2, 0, 59, LAST_NANO);
        x.tell(1, 2, 1, 0, 0);
        Check.due("MINUTE", -1, x.compare(0, 1));
        x.tell(0, 2, 1, 0, LAST_NANO);
        x.tell(1, 2, 1, 1, 0);
        Check.due("SECOND", -1, x.compare(0, 1));
    }

    static void promise16LikeOnes() {
        for (long number : RISING) {
            Check.due("both " + number, 0, two(number, number).compare(0, 1));
        }
    }

    static void promise16TheSame() {
        for (int clock = 0; clock < 8; clock++) {
            Check.due("itself " + clock, 0, rising().compare(clock, clock));
        }
    }

    // ---- 17, isAhead

    static void promise17ClockIs0To7() {
        Check.clocks("isAhead", false, (x, clock) -> x.isAhead(clock, 7 - clock));
    }

    static void promise17OtherIs0To7() {
        Check.clocks("isAhead", false, (x, other) -> x.isAhead(7 - other, other));
        Check.noClocks("isAhead, both", (x, clock) -> x.isAhead(clock, clock));
    }

    static void promise17AheadIfItsNumberIsSmaller() {
        Clocksolo x = rising();
        for (int clock = 0; clock < 8; clock++) {
            for (int other = 0; other < 8; other++) {
                Check.due(clock + " ahead of " + other, clock < other, x.isAhead(clock, other));
            }
        }
    }

    static void promise17LikeOnesAndTheSame() {
        for (long number : RISING) {
            Check.due("both " + number, false, two(number, number).isAhead(0, 1));
            Check.due("itself " + number, false, two(number, number).isAhead(1, 1));
        }
    }

    // ---- 18, isBehind

    static void promise18ClockIs0To7() {
        Check.clocks("isBehind", false, (x, clock) -> x.isBehind(clock, 7 - clock));
    }

    static void promise18OtherIs0To7() {
        Check.clocks("isBehind", false, (x, other) -> x.isBehind(7 - other, other));
        Check.noClocks("isBehind, both", (x, clock) -> x.isBehind(clock, clock));
    }

    static void promise18BehindIfItsNumberIsGreater() {
        Clocksolo x = rising();
        for (int clock = 0; clock < 8; clock++) {
            for (int other = 0; other < 8; other++) {
                Check.due(clock + " behind " + other, clock > other, x.isBehind(clock, other));
            }
        }
    }

    static void promise18LikeOnesAndTheSame() {
        for (long number : RISING) {
            Check.due("both " + number, false, two(number, number).isBehind(0, 1));
            Check.due("itself " + number, false, two(number, number).isBehind(1, 1));
        }
    }

    // ---- 19, areAlike

    static void promise19ClockIs0To7() {
        Check.clocks("areAlike", true, (x, clock) -> x.areAlike(clock, 7 - clock));
    }

    static void promise19OtherIs0To7() {
        Check.clocks("areAlike", true, (x, other) -> x.areAlike(7 - other, other));
        Check.noClocks("areAlike, both", (x, clock) -> x.areAlike(clock, clock));
    }

    static void promise19ANanoApartIsUnlike() {
        Clocksolo x = rising();
        for (int clock = 0; clock < 8; clock++) {
            for (int other = 0; other < 8; other++) {
                Check.due(clock + " and " + other, clock == other, x.areAlike(clock, other));
            }
        }
    }

    static void promise19LikeOnesHoweverTheyWereTold() {
        Clocksolo x = new Clocksolo();
        x.tell(0, 12, 0, 0, 0);
        x.tellSecond(1, 43200);
        x.tellNumber(2, 43200, 0);
        x.tellKnown(3, 1);
        x.take(4, 3);
        x.with(5, 0, 12);
        x.minus(6, 5, 12, 1);
        x.tellKnown(7, 2);
        x.cut(7, 6);
        for (int clock = 0; clock < 8; clock++) {
            Check.due("0 and " + clock, true, x.areAlike(0, clock));
        }
    }

    static void promise19TheSame() {
        for (int clock = 0; clock < 8; clock++) {
            Check.due("itself " + clock, true, Check.used().areAlike(clock, clock));
        }
    }

    // ---- 20, between

    static void promise20ClockIs0To7() {
        Check.clocks("between", "0", (x, clock) -> x.between(clock, 7 - clock, 0));
    }

    static void promise20OtherIs0To7() {
        Check.clocks("between", "0", (x, other) -> x.between(7 - other, other, 6));
        Check.noClocks("between, both", (x, clock) -> x.between(clock, clock, 0));
    }

    static void promise20UnitIs0To6() {
        Check.range("unit", 0, "86399999999998", 6, "1", (x, unit) -> x.between(2, 1, unit));
        Check.illegal("unit 7, a day, with itself", x -> x.between(0, 0, 7));
    }

    static void promise20OneUnitApart() {
        for (int unit = 0; unit < 7; unit++) {
            Clocksolo x = two(0L, Check.UNIT_NANOS[unit]);
            Check.due("on, unit " + unit, "1", x.between(0, 1, unit));
            Check.due("back, unit " + unit, "-1", x.between(1, 0, unit));
        }
    }

    static void promise20ANanoLessThanOneUnitIsNone() {
        for (int unit = 0; unit < 7; unit++) {
            Clocksolo x = two(7L, 7L + Check.UNIT_NANOS[unit] - 1);
            Check.due("on, unit " + unit, "0", x.between(0, 1, unit));
            Check.due("back without a sign, unit " + unit, "0", x.between(1, 0, unit));
        }
    }

    static void promise20ANanoLessThanTwoUnitsIsOne() {
        for (int unit = 1; unit < 7; unit++) {
            Clocksolo x = two(0L, 2 * Check.UNIT_NANOS[unit] - 1);
            Check.due("on, unit " + unit, "1", x.between(0, 1, unit));
            Check.due("back, unit " + unit, "-1", x.between(1, 0, unit));
        }
    }

    static void promise20WholeUnitsLieBetweenAndNotTheirEdges() {
        Clocksolo x = Check.at(1, 59, 59, LAST_NANO);
        x.tell(1, 2, 0, 0, 0);
        Check.due("a nano over an hour's edge", "0", x.between(0, 1, 5));
        Check.due("a nano over a minute's edge, back", "0", x.between(1, 0, 4));
        Check.due("a nano over a second's edge", "0", x.between(0, 1, 3));
        Check.due("a nano", "1", x.between(0, 1, 0));
    }

    static void promise20FromTheFirstToTheLast() {
        String[] units = {"86399999999999", "86399999999", "86399999", "86399", "1439", "23", "1"};
        for (int unit = 0; unit < 7; unit++) {
            Clocksolo x = two(0L, 86399999999999L);
            Check.due("on, unit " + unit, units[unit], x.between(0, 1, unit));
            Check.due("back, unit " + unit, "-" + units[unit], x.between(1, 0, unit));
        }
    }

    static void promise20NeverOverMidnight() {
        Clocksolo x = Check.at(23, 0, 0, 0);
        x.tell(1, 1, 0, 0, 0);
        Check.due("from 23 to 1", "-22", x.between(0, 1, 5));
        Check.due("from 1 to 23", "22", x.between(1, 0, 5));
    }

    static void promise20LikeOnesAndTheSame() {
        for (int unit = 0; unit < 7; unit++) {
            Check.due("like ones, unit " + unit, "0", Check.used().between(0, 4, unit));
            Check.due("the same, unit " + unit, "0", Check.used().between(1, 1, unit));
        }
    }

    static void promise20NoClockIsNamedFirst() {
        Check.outOfBounds("the first one", x -> x.between(-1, 0, 7));
        Check.outOfBounds("the other one", x -> x.between(0, 8, -1));
        Check.outOfBounds("both", x -> x.between(8, -1, 7));
    }

    // ---- 21, order

    static void promise21AllAlike() {
        Check.due("all first", "0 1 2 3 4 5 6 7", new Clocksolo().order());
        Check.due("all some other", "0 1 2 3 4 5 6 7", Check.even().order());
        Clocksolo x = new Clocksolo();
        for (int clock = 0; clock < 8; clock++) {
            x.tellKnown(clock, 2);
        }
        Check.due("all last", "0 1 2 3 4 5 6 7", x.order());
    }

    static void promise21ByTheirNumbers() {
        Check.due("rising", "0 1 2 3 4 5 6 7", rising().order());
        Clocksolo x = new Clocksolo();
        for (int clock = 0; clock < 8; clock++) {
            Check.tellNumber(x, 7 - clock, RISING[clock]);
        }
        Check.due("falling", "7 6 5 4 3 2 1 0", x.order());
        Check.due("of all sorts", "2 6 5 3 0 4 7 1", Check.used().order());
    }

    static void promise21LikeOnesByWhichTheyAre() {
        Clocksolo x = rising();
        x.take(0, 7);
        Check.due("0 as 7", "1 2 3 4 5 6 0 7", x.order());
        x.take(3, 7);
        Check.due("0 and 3 as 7", "1 2 4 5 6 0 3 7", x.order());
        x.take(6, 1);
        Check.due("6 as 1", "1 6 2 4 5 0 3 7", x.order());
    }

    static void promise21ANanoApart() {
        Clocksolo x = Check.even();
        x.minus(7, 0, 1, 1);
        Check.due("7 a nano ahead", "7 0 1 2 3 4 5 6", x.order());
        x.plus(0, 0, 1, 1);
        Check.due("0 a nano behind", "7 1 2 3 4 5 6 0", x.order());
    }

    static void promise21OverMidnight() {
        Clocksolo x = Check.even();
        x.tellKnown(4, 2);
        Check.due("the last one", "0 1 2 3 5 6 7 4", x.order());
        x.plus(4, 0, 1, 1);
        Check.due("then the first one", "4 0 1 2 3 5 6 7", x.order());
    }

    // ---- 22, kinds

    static void promise22FromOneToEight() {
        Clocksolo x = new Clocksolo();
        Check.due("all alike", 1, x.kinds());
        for (int clock = 1; clock < 8; clock++) {
            x.tellNumber(clock, 0, clock);
            Check.due(clock + " unlike", clock + 1, x.kinds());
        }
    }

    static void promise22CountsFromBehindToo() {
        Clocksolo x = new Clocksolo();
        for (int clock = 7; clock > 0; clock--) {
            x.tellNumber(clock, clock, 0);
            Check.due("from " + clock, 9 - clock, x.kinds());
        }
    }

    static void promise22LikeOnesFarApart() {
        Clocksolo x = rising();
        x.take(7, 0);
        Check.due("7 as 0", 7, x.kinds());
        x.take(0, 6);
        Check.due("0 as 6, 7 as 0 was", 7, x.kinds());
        x.take(7, 6);
        Check.due("0 and 7 as 6", 6, x.kinds());
    }

    static void promise22ANanoApartIsUnlike() {
        Clocksolo x = Check.even();
        Check.due("all alike", 1, x.kinds());
        x.plus(7, 0, 1, 1);
        Check.due("the last a nano on", 2, x.kinds());
        x.plus(0, 0, 1, 1);
        Check.due("the first as the last", 2, x.kinds());
        x.plus(0, 0, 1, 1);
        Check.due("the first unlike both", 3, x.kinds());
    }
}
