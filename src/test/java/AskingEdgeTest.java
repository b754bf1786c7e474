/** Promises 12 to 15 at their edges, and what the document says of parts, NUMBERS and texts: a test for each sentence. */
public final class AskingEdgeTest {
    private static final int LAST_NANO = 999999999;

    public static void main(String[] args) {
        Check.runAll(AskingEdgeTest.class);
    }

    // ---- the description

    static void descriptionANumberIsReckonedFromItsParts() {
        Check.due("a nano", "1", Check.at(0, 0, 0, 1).number(0));
        Check.due("the greatest NANO", "999999999", Check.at(0, 0, 0, LAST_NANO).number(0));
        Check.due("a second", "1000000000", Check.at(0, 0, 1, 0).number(0));
        Check.due("the greatest SECOND", "59000000000", Check.at(0, 0, 59, 0).number(0));
        Check.due("a minute", "60000000000", Check.at(0, 1, 0, 0).number(0));
        Check.due("the greatest MINUTE", "3540000000000", Check.at(0, 59, 0, 0).number(0));
        Check.due("an hour", "3600000000000", Check.at(1, 0, 0, 0).number(0));
        Check.due("the greatest HOUR", "82800000000000", Check.at(23, 0, 0, 0).number(0));
        Check.due("the greatest of all", "86399999999999", Check.at(23, 59, 59, LAST_NANO).number(0));
    }

    static void descriptionSecondOfTheDayIsReckonedFromItsParts() {
        Check.due("a nano is no second", 0, Check.at(0, 0, 0, LAST_NANO).of(0, 4));
        Check.due("a second", 1, Check.at(0, 0, 1, 0).of(0, 4));
        Check.due("a minute", 60, Check.at(0, 1, 0, 0).of(0, 4));
        Check.due("an hour", 3600, Check.at(1, 0, 0, 0).of(0, 4));
        Check.due("the greatest", 86399, Check.at(23, 59, 59, LAST_NANO).of(0, 4));
    }

    static void descriptionATextHasEachPartByItsDigitsAlone() {
        Check.due("as the document has it", "9:5:0.7", Check.at(9, 5, 0, 7).text(0));
        Check.due("all 0", "0:0:0.0", Check.at(0, 0, 0, 0).text(0));
        Check.due("a digit each", "9:9:9.9", Check.at(9, 9, 9, 9).text(0));
        Check.due("two digits each", "10:10:10.10", Check.at(10, 10, 10, 10).text(0));
        Check.due("no 0 is cut off behind", "20:50:30.500000000", Check.at(20, 50, 30, 500000000).text(0));
        Check.due("no 0 is put on ahead", "1:2:3.5", Check.at(1, 2, 3, 5).text(0));
        Check.due("all greatest", "23:59:59.999999999", Check.at(23, 59, 59, LAST_NANO).text(0));
    }

    // ---- 12, of

    static void promise12ClockIs0To7() {
        Check.clocks("of", 13, (x, clock) -> x.of(clock, 0));
        Check.clocks("of", 49062, (x, clock) -> x.of(clock, 4));
    }

    static void promise12WhatIs0To4() {
        Check.range("what", 0, 23, 4, 86399, (x, what) -> x.of(1, what));
    }

    static void promise12LeastOfEach() {
        for (int what = 0; what < 5; what++) {
            Check.due("what " + what, 0, Check.at(0, 0, 0, 0).of(0, what));
        }
    }

    static void promise12GreatestOfEach() {
        int[] parts = {23, 59, 59, LAST_NANO, 86399};
        for (int what = 0; what < 5; what++) {
            Check.due("what " + what, parts[what], Check.at(23, 59, 59, LAST_NANO).of(0, what));
        }
    }

    static void promise12EachClockByItsOwn() {
        Clocksolo x = eightUnlike();
        for (int clock = 0; clock < 8; clock++) {
            Check.due("HOUR of " + clock, clock + 10, x.of(clock, 0));
            Check.due("MINUTE of " + clock, clock + 20, x.of(clock, 1));
            Check.due("SECOND of " + clock, clock + 30, x.of(clock, 2));
            Check.due("NANO of " + clock, clock + 40, x.of(clock, 3));
        }
    }

    private static Clocksolo eightUnlike() {
        Clocksolo x = new Clocksolo();
        for (int clock = 0; clock < 8; clock++) {
            x.tell(clock, clock + 10, clock + 20, clock + 30, clock + 40);
        }
        return x;
    }

    static void promise12NoClockIsNamedFirst() {
        Check.outOfBounds("below", x -> x.of(-1, -1));
        Check.outOfBounds("above", x -> x.of(8, 5));
    }

    // ---- 13, number

    static void promise13ClockIs0To7() {
        Check.clocks("number", "49062123456789", (x, clock) -> x.number(clock));
    }

    static void promise13ByItsDigits() {
        String[] numbers = {
            "0", "1", "9", "10", "99", "100", "2147483647", "2147483648", "4294967296", "9999999999", "10000000000",
            "10000000000000", "86399999999999"
        };
        for (String number : numbers) {
            Check.due("its digits", number, Check.atNumber(Long.parseLong(number)).number(0));
        }
    }

    static void promise13EachClockByItsOwn() {
        Clocksolo x = eightUnlike();
        for (int clock = 0; clock < 8; clock++) {
            long number = 1000000000L * (3600 * (clock + 10) + 60 * (clock + 20) + clock + 30) + clock + 40;
            Check.due("clock " + clock, Long.toString(number), x.number(clock));
        }
    }

    // ---- 14, text

    static void promise14ClockIs0To7() {
        Check.clocks("text", "13:37:42.123456789", (x, clock) -> x.text(clock));
    }

    static void promise14EachClockByItsOwn() {
        Clocksolo x = eightUnlike();
        for (int clock = 0; clock < 8; clock++) {
            String text = (clock + 10) + ":" + (clock + 20) + ":" + (clock + 30) + "." + (clock + 40);
            Check.due("clock " + clock, text, x.text(clock));
        }
    }

    // ---- 15, beyond

    static void promise15ClockIs0To7() {
        Check.clocks("beyond", "456789", (x, clock) -> x.beyond(clock, 2));
    }

    static void promise15UnitIs0To7() {
        Check.range("unit", 0, "0", 7, "86399999999999", (x, unit) -> x.beyond(1, unit));
    }

    static void promise15TheLastOneBeyondEachUnit() {
        String[] beyond = {
            "0", "999", "999999", "999999999", "59999999999", "3599999999999", "43199999999999", "86399999999999"
        };
        for (int unit : Check.UNITS) {
            Check.due("unit " + unit, beyond[unit], Check.at(23, 59, 59, LAST_NANO).beyond(0, unit));
        }
    }

    static void promise15TheFirstOneBeyondEachUnit() {
        for (int unit : Check.UNITS) {
            Check.due("unit " + unit, "0", new Clocksolo().beyond(0, unit));
        }
    }

    static void promise15OneUnitHasNothingBeyond() {
        for (int unit = 1; unit < 7; unit++) {
            long size = Check.UNIT_NANOS[unit];
            Check.due("one unit " + unit, "0", Check.atNumber(size).beyond(0, unit));
            Check.due("a nano less", Long.toString(size - 1), Check.atNumber(size - 1).beyond(0, unit));
            Check.due("a nano more", "1", Check.atNumber(size + 1).beyond(0, unit));
        }
    }

    static void promise15ANanoHasNeverOneBeyond() {
        for (long number : new long[] {0L, 1L, 999L, 49062123456789L, 86399999999999L}) {
            Check.due("unit 0 at " + number, "0", Check.atNumber(number).beyond(0, 0));
        }
    }

    static void promise15ItStays() {
        for (int unit : Check.UNITS) {
            Clocksolo x = Check.used();
            String before = Check.state(x);
            x.beyond(0, unit);
            x.beyond(1, unit);
            Check.due("unit " + unit, before, Check.state(x));
        }
    }

    static void promise15IsWhatACutTakesAway() {
        for (int clock = 0; clock < 8; clock++) {
            for (int unit : Check.UNITS) {
                Clocksolo x = Check.used();
                long number = Long.parseLong(x.number(clock));
                String beyond = x.beyond(clock, unit);
                x.cut(clock, unit);
                long taken = number - Long.parseLong(x.number(clock));
                Check.due("clock " + clock + ", unit " + unit, Long.toString(taken), beyond);
            }
        }
    }

    static void promise15NoClockIsNamedFirst() {
        Check.outOfBounds("below", x -> x.beyond(-1, -1));
        Check.outOfBounds("above", x -> x.beyond(8, 8));
    }
}
