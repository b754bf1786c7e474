/** Promises 1 to 6 at their edges: a test for each sentence that names one. */
public final class TellingEdgeTest {
    private static final int LAST_NANO = 999999999;

    public static void main(String[] args) {
        Check.runAll(TellingEdgeTest.class);
    }

    static void promise1EachClockIsAtTheBeginningOfTheDay() {
        Clocksolo x = new Clocksolo();
        for (int clock = 0; clock < 8; clock++) {
            for (int what = 0; what < 5; what++) {
                Check.due("of(" + clock + ", " + what + ")", 0, x.of(clock, what));
            }
            Check.due("number(" + clock + ")", "0", x.number(clock));
            Check.due("text(" + clock + ")", "0:0:0.0", x.text(clock));
        }
    }

    static void promise1ThereAreEightClocks() {
        Check.noClocks("a new object's of()", (used, clock) -> new Clocksolo().of(clock, 0));
        Check.due("order() names eight", "0 1 2 3 4 5 6 7", new Clocksolo().order());
    }

    static void promise1NothingIsCountedAtFirst() {
        Check.due("house(0)", 0, new Clocksolo().house(0));
        Check.due("house(1)", 0, new Clocksolo().house(1));
    }

    static void promise1ObjectsShareNothing() {
        Clocksolo x = new Clocksolo();
        String before = Check.state(x);
        Check.used().knock();
        Check.due("an object made before", before, Check.state(x));
        Check.due("an object made behind", before, Check.state(new Clocksolo()));
    }

    static void promise2ClockIs0To7() {
        Check.clocks("tell", 3723, (x, clock) -> x.tell(clock, 1, 2, 3, 4));
    }

    static void promise2HourIs0To23() {
        Check.range("hour", 0, 3599, 23, 86399, (x, hour) -> x.tell(3, hour, 59, 59, LAST_NANO));
    }

    static void promise2MinuteIs0To59() {
        Check.range("minute", 0, 82859, 59, 86399, (x, minute) -> x.tell(3, 23, minute, 59, LAST_NANO));
    }

    static void promise2SecondIs0To59() {
        Check.range("second", 0, 86340, 59, 86399, (x, second) -> x.tell(3, 23, 59, second, LAST_NANO));
    }

    static void promise2NanoIs0To999999999() {
        Check.range("nano", 0, 86399, LAST_NANO, 86399, (x, nano) -> x.tell(3, 23, 59, 59, nano));
        Check.due("the least NANO", "23:59:59.0", Check.at(23, 59, 59, 0).text(0));
        Check.due("the greatest NANO", "23:59:59.999999999", Check.at(23, 59, 59, LAST_NANO).text(0));
    }

    static void promise2LeastAndGreatestOfAllAtOnce() {
        Clocksolo x = Check.used();
        Check.due("all least", 0, x.tell(0, 0, 0, 0, 0));
        Check.due("all least", "0", x.number(0));
        Check.due("all greatest", 86399, x.tell(0, 23, 59, 59, LAST_NANO));
        Check.due("all greatest", "86399999999999", x.number(0));
    }

    static void promise2APartMayBeWhatAnotherMayNot() {
        Check.due("24 and 59", 1499, Check.used().tell(0, 0, 24, 59, 60));
        Check.illegal("hour 59", x -> x.tell(0, 59, 0, 0, 0));
        Check.illegal("minute 100", x -> x.tell(0, 0, 100, 0, 0));
        Check.illegal("second 100", x -> x.tell(0, 0, 0, 100, 0));
    }

    static void promise2NoClockIsNamedFirst() {
        for (int clock : new int[] {-1, 8}) {
            Check.outOfBounds("with hour", x -> x.tell(clock, 24, 0, 0, 0));
            Check.outOfBounds("with minute", x -> x.tell(clock, 0, 60, 0, 0));
            Check.outOfBounds("with second", x -> x.tell(clock, 0, 0, -1, 0));
            Check.outOfBounds("with nano", x -> x.tell(clock, 0, 0, 0, 1000000000));
            Check.outOfBounds("with all", x -> x.tell(clock, -1, -1, -1, -1));
        }
    }

    static void promise3ClockIs0To7() {
        Check.clocks("tellSecond", 1, (x, clock) -> x.tellSecond(clock, 3723));
    }

    static void promise3SecondIs0To86399() {
        Check.range("second", 0, 0, 86399, 23, (x, second) -> x.tellSecond(1, second));
        Clocksolo x = new Clocksolo();
        x.tellSecond(0, 86399);
        Check.due("the greatest", "86399000000000", x.number(0));
    }

    static void promise3NanoIs0Then() {
        Clocksolo x = Check.used();
        x.tellSecond(1, 86399);
        Check.due("from the last one", "23:59:59.0", x.text(1));
        x.tellSecond(2, 0);
        Check.due("from one nano", "0:0:0.0", x.text(2));
    }

    static void promise3AnswersTheHourAtItsEdges() {
        for (int hour = 1; hour < 24; hour++) {
            Check.due("the hour's first second", hour, new Clocksolo().tellSecond(0, 3600 * hour));
            Check.due("the last second ahead", hour - 1, new Clocksolo().tellSecond(0, 3600 * hour - 1));
        }
    }

    static void promise3NoClockIsNamedFirst() {
        Check.outOfBounds("below", x -> x.tellSecond(-1, -1));
        Check.outOfBounds("above", x -> x.tellSecond(8, 86400));
    }

    static void promise4ClockIs0To7() {
        Check.clocks("tellNumber", 1, (x, clock) -> x.tellNumber(clock, 3723, 4));
    }

    static void promise4SecondIs0To86399() {
        Check.range("second", 0, 0, 86399, 23, (x, second) -> x.tellNumber(1, second, LAST_NANO));
    }

    static void promise4NanoIs0To999999999() {
        Check.range("nano", 0, 23, LAST_NANO, 23, (x, nano) -> x.tellNumber(1, 86399, nano));
    }

    static void promise4LeastAndGreatestNumber() {
        Clocksolo x = Check.used();
        Check.due("least", 0, x.tellNumber(0, 0, 0));
        Check.due("least", "0", x.number(0));
        Check.due("nanos alone", 0, x.tellNumber(0, 0, LAST_NANO));
        Check.due("nanos alone", "999999999", x.number(0));
        Check.due("seconds alone", 23, x.tellNumber(0, 86399, 0));
        Check.due("seconds alone", "86399000000000", x.number(0));
        Check.due("greatest", 23, x.tellNumber(0, 86399, LAST_NANO));
        Check.due("greatest", "86399999999999", x.number(0));
    }

    static void promise4AnswersTheHourAtItsEdges() {
        Check.due("a nano ahead of 1", 0, new Clocksolo().tellNumber(0, 3599, LAST_NANO));
        Check.due("1", 1, new Clocksolo().tellNumber(0, 3600, 0));
        Check.due("a nano ahead of 23", 22, new Clocksolo().tellNumber(0, 82799, LAST_NANO));
        Check.due("23", 23, new Clocksolo().tellNumber(0, 82800, 0));
    }

    static void promise4NoClockIsNamedFirst() {
        Check.outOfBounds("with second", x -> x.tellNumber(-1, 86400, 0));
        Check.outOfBounds("with nano", x -> x.tellNumber(8, 0, -1));
        Check.outOfBounds("with both", x -> x.tellNumber(8, -1, 1000000000));
    }

    static void promise5ClockIs0To7() {
        Check.clocks("tellKnown", 43200, (x, clock) -> x.tellKnown(clock, 1));
    }

    static void promise5WhichIs0To2() {
        Check.range("which", 0, 0, 2, 86399, (x, which) -> x.tellKnown(0, which));
    }

    static void promise5EachKnownOne() {
        String[] texts = {"0:0:0.0", "12:0:0.0", "23:59:59.999999999"};
        for (int which = 0; which < 3; which++) {
            Clocksolo x = Check.used();
            x.tellKnown(0, which);
            Check.due("which " + which, texts[which], x.text(0));
        }
    }

    static void promise5NothingIsAheadOfTheFirstAndBehindTheLast() {
        Clocksolo x = Check.used();
        x.tell(0, 0, 0, 0, 0);
        x.tellKnown(4, 0);
        Check.due("the first one of the day", true, x.areAlike(0, 4));
        x.tell(0, 23, 59, 59, LAST_NANO);
        x.tellKnown(4, 2);
        Check.due("the last one of the day", true, x.areAlike(0, 4));
    }

    static void promise5NoClockIsNamedFirst() {
        Check.outOfBounds("below", x -> x.tellKnown(-1, -1));
        Check.outOfBounds("above", x -> x.tellKnown(8, 3));
    }

    static void promise6ClockIs0To7() {
        for (int other = 0; other < 8; other++) {
            int from = other;
            Check.noClocks("take from " + from, (x, clock) -> x.take(clock, from));
        }
        Check.clocks("take", 0, (x, clock) -> x.take(clock, 7 - clock));
    }

    static void promise6OtherIs0To7() {
        Check.clocks("take", 0, (x, other) -> x.take(7 - other, other));
        Check.noClocks("take, both", (x, clock) -> x.take(clock, clock));
    }

    static void promise6EachFromEach() {
        for (int clock = 0; clock < 8; clock++) {
            for (int other = 0; other < 8; other++) {
                Clocksolo x = Check.used();
                String taken = x.text(other);
                Check.due(clock + " from " + other, x.areAlike(clock, other) ? 0 : 1, x.take(clock, other));
                Check.due(clock + " from " + other, taken, x.text(clock));
                Check.due(clock + " leaves " + other, taken, x.text(other));
            }
        }
    }

    static void promise6ANanoApartIsAnotherNumber() {
        Clocksolo x = Check.at(23, 59, 59, LAST_NANO);
        x.tell(1, 23, 59, 59, 999999998);
        Check.due("a nano apart", 1, x.take(0, 1));
        Check.due("then alike", 0, x.take(0, 1));
    }

    static void promise6ADayLessANanoApartIsAnotherNumber() {
        Clocksolo x = new Clocksolo();
        x.tellKnown(1, 2);
        Check.due("the last one", 1, x.take(0, 1));
        Check.due("the last one", "23:59:59.999999999", x.text(0));
        Check.due("back to the first one", 1, x.take(0, 2));
        Check.due("back to the first one", "0:0:0.0", x.text(0));
    }

    static void promise6LikeOnes() {
        Clocksolo x = Check.used();
        Check.due("alike", 0, x.take(0, 4));
        Check.due("alike, the other way", 0, x.take(4, 0));
        Check.due("alike", "13:37:42.123456789", x.text(0));
    }

    static void promise6OneFromItself() {
        for (int clock = 0; clock < 8; clock++) {
            Clocksolo x = Check.used();
            String before = x.text(clock);
            Check.due("itself " + clock, 0, x.take(clock, clock));
            Check.due("itself " + clock, before, x.text(clock));
        }
    }

    static void promise6AsItIsNowAndNotLater() {
        Clocksolo x = Check.used();
        x.take(6, 0);
        x.plus(0, 0, 1, 1);
        Check.due("taken ahead of that", "13:37:42.123456789", x.text(6));
        x.plus(6, 0, 2, 1);
        Check.due("nor the other way", "13:37:42.123456790", x.text(0));
    }
}
