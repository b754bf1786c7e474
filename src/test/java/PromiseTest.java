/** Each promise by written examples of ordinary inputs; its edges and wrong inputs stand in the edge tests. */
public final class PromiseTest {
    public static void main(String[] args) {
        Check.runAll(PromiseTest.class);
    }

    static void promise1NewObject() {
        Clocksolo x = new Clocksolo();
        for (int clock = 0; clock < 8; clock++) {
            Check.due("1 number " + clock, "0", x.number(clock));
            Check.due("1 text " + clock, "0:0:0.0", x.text(clock));
        }
        Check.due("1 house(0)", 0, x.house(0));
        Check.due("1 house(1)", 0, x.house(1));
        Clocksolo other = new Clocksolo();
        x.tell(3, 1, 2, 3, 4);
        x.knock();
        Check.due("1 objects share no clock", "0", other.number(3));
        Check.due("1 objects share no knock", 0, other.house(0));
    }

    static void promise2Tell() {
        Clocksolo x = new Clocksolo();
        Check.due("2", 49062, x.tell(0, 13, 37, 42, 123456789));
        Check.due("2", "13:37:42.123456789", x.text(0));
        Check.due("2 others stay", "0:0:0.0", x.text(1));
        Check.due("2 first", 0, x.tell(7, 0, 0, 0, 0));
        Check.due("2 last", 86399, x.tell(7, 23, 59, 59, 999999999));
        Check.due("2 last", "86399999999999", x.number(7));
    }

    static void promise3TellSecond() {
        Clocksolo x = new Clocksolo();
        x.tell(1, 5, 6, 7, 8);
        Check.due("3", 13, x.tellSecond(1, 49062));
        Check.due("3 nano is 0 then", "13:37:42.0", x.text(1));
        Check.due("3 first", 0, x.tellSecond(1, 0));
        Check.due("3 end of an hour", 0, x.tellSecond(1, 3599));
        Check.due("3 start of an hour", 1, x.tellSecond(1, 3600));
        Check.due("3 last", 23, x.tellSecond(1, 86399));
        Check.due("3 last", "86399000000000", x.number(1));
    }

    static void promise4TellNumber() {
        Clocksolo x = new Clocksolo();
        Check.due("4", 13, x.tellNumber(2, 49062, 123456789));
        Check.due("4", "49062123456789", x.number(2));
        Check.due("4", "13:37:42.123456789", x.text(2));
        Check.due("4 first", 0, x.tellNumber(2, 0, 0));
        Check.due("4 first", "0", x.number(2));
        Check.due("4 last", 23, x.tellNumber(2, 86399, 999999999));
        Check.due("4 last", "86399999999999", x.number(2));
    }

    static void promise5TellKnown() {
        Clocksolo x = new Clocksolo();
        Check.due("5 noon", 43200, x.tellKnown(3, 1));
        Check.due("5 noon", "12:0:0.0", x.text(3));
        Check.due("5 last", 86399, x.tellKnown(3, 2));
        Check.due("5 last", "23:59:59.999999999", x.text(3));
        Check.due("5 first", 0, x.tellKnown(3, 0));
        Check.due("5 first", "0:0:0.0", x.text(3));
    }

    static void promise6Take() {
        Clocksolo x = new Clocksolo();
        x.tell(0, 1, 2, 3, 4);
        Check.due("6 another NUMBER", 1, x.take(1, 0));
        Check.due("6", "1:2:3.4", x.text(1));
        Check.due("6 other stays", "1:2:3.4", x.text(0));
        Check.due("6 the same NUMBER", 0, x.take(1, 0));
        Check.due("6 itself", 0, x.take(0, 0));
        x.plus(0, 0, 1, 1);
        Check.due("6 as it is now, not later", "1:2:3.4", x.text(1));
        Check.due("6 a nano apart", 1, x.take(0, 1));
    }

    static void promise7With() {
        Clocksolo x = new Clocksolo();
        x.tell(0, 13, 37, 42, 123456789);
        Check.due("7 hour", 13, x.with(0, 0, 23));
        Check.due("7 hour", "23:37:42.123456789", x.text(0));
        Check.due("7 minute", 37, x.with(0, 1, 59));
        Check.due("7 minute", "23:59:42.123456789", x.text(0));
        Check.due("7 second", 42, x.with(0, 2, 59));
        Check.due("7 second", "23:59:59.123456789", x.text(0));
        Check.due("7 nano", 123456789, x.with(0, 3, 999999999));
        Check.due("7 nano", "23:59:59.999999999", x.text(0));
        Check.due("7 hour to 0", 23, x.with(0, 0, 0));
        Check.due("7 minute to 0", 59, x.with(0, 1, 0));
        Check.due("7 second to 0", 59, x.with(0, 2, 0));
        Check.due("7 nano to 0", 999999999, x.with(0, 3, 0));
        Check.due("7 all 0", "0:0:0.0", x.text(0));
        Check.due("7 as it is", 0, x.with(0, 3, 0));
    }

    static void promise8Plus() {
        Clocksolo x = new Clocksolo();
        Check.due("8 an hour", 3600, x.plus(0, 5, 1, 1));
        Check.due("8 a minute", 3660, x.plus(0, 4, 1, 1));
        Check.due("8 a second", 3661, x.plus(0, 3, 1, 1));
        Check.due("8 a nano", 3661, x.plus(0, 0, 1, 1));
        Check.due("8", "1:1:1.1", x.text(0));
        Check.due("8 amount times times", 3667, x.plus(0, 3, 2, 3));
        Check.due("8 below 0 is back", 3661, x.plus(0, 3, -2, 3));
        Check.due("8 below 0 twice is on", 3667, x.plus(0, 3, -2, -3));
        Check.due("8 no times", 3667, x.plus(0, 3, 77, 0));
        Check.due("8 no amount", 3667, x.plus(0, 3, 0, 77));
        x.tellKnown(1, 2);
        Check.due("8 over the end", 0, x.plus(1, 0, 1, 1));
        Check.due("8 over the beginning", 86399, x.plus(1, 0, -1, 1));
        Check.due("8 a whole day", 86399, x.plus(1, 5, 24, 1));
        x.tellKnown(2, 0);
        Check.due("8 hours beyond a long of nanos", 3600, x.plus(2, 5, Integer.MAX_VALUE, Integer.MAX_VALUE));
        x.tell(3, 0, 59, 0, 999999999);
        Check.due("8 nanos, greatest product", 3159, x.plus(3, 0, Integer.MIN_VALUE, Integer.MIN_VALUE));
        Check.due("8 nanos, greatest product", "3159427387903", x.number(3));
        Check.due("8 others stay", "0:0:0.0", x.text(4));
    }

    static void promise9Minus() {
        Clocksolo x = new Clocksolo();
        x.tell(0, 13, 37, 42, 5);
        Check.due("9 an hour", 45462, x.minus(0, 5, 1, 1));
        Check.due("9 a minute", 45402, x.minus(0, 4, 1, 1));
        Check.due("9 a second", 45401, x.minus(0, 3, 1, 1));
        Check.due("9 a nano", 45401, x.minus(0, 0, 1, 1));
        Check.due("9", "12:36:41.4", x.text(0));
        Check.due("9 amount times times", 45395, x.minus(0, 3, 2, 3));
        Check.due("9 below 0 is on", 45401, x.minus(0, 3, 2, -3));
        Check.due("9 below 0 twice is back", 45395, x.minus(0, 3, -2, -3));
        Check.due("9 no times", 45395, x.minus(0, 3, 77, 0));
        Check.due("9 over the beginning", 86399, x.minus(1, 0, 1, 1));
        Check.due("9 over the beginning", "86399999999999", x.number(1));
        Check.due("9 over the end", 0, x.minus(1, 0, -1, 1));
        Check.due("9 a whole day", 0, x.minus(1, 4, 1440, 1));
        x.tell(2, 0, 59, 0, 999999999);
        Check.due("9 many", 25940, x.minus(2, 3, 100000, 100000));
        for (int unit : Check.STEP_UNITS) {
            x.tell(3, 7, 8, 9, 10);
            x.plus(3, unit, Integer.MIN_VALUE, Integer.MIN_VALUE);
            x.minus(3, unit, Integer.MIN_VALUE, Integer.MIN_VALUE);
            Check.due("9 undoes the greatest product, unit " + unit, "7:8:9.10", x.text(3));
            x.plus(3, unit, Integer.MIN_VALUE, 1);
            x.minus(3, unit, Integer.MIN_VALUE, 1);
            Check.due("9 undoes the smallest int, unit " + unit, "7:8:9.10", x.text(3));
        }
        Check.due("9 smallest int goes on", 11648, new Clocksolo().minus(0, 3, Integer.MIN_VALUE, 1));
    }

    static void promise10Walk() {
        Clocksolo x = new Clocksolo();
        Check.due("10", 1, x.walk(0, 4, 59, 40));
        Check.due("10", "15:20:0.0", x.text(0));
        Check.due("10 back", 39, x.walk(0, 4, -59, 40));
        Check.due("10 back", "0:0:0.0", x.text(0));
        Check.due("10 whole days are no smaller NUMBER", 0, x.walk(0, 5, 24, 40));
        Check.due("10 none", 0, x.walk(0, 3, 77, 0));
        Check.due("10 nothing put on", 0, x.walk(0, 3, 0, 40));
        Check.due("10 nanos back", 2, x.walk(1, 0, -1, 3));
        Check.due("10 nanos back", "86399999999997", x.number(1));
        Check.due("10 once over the end", 1, x.walk(1, 0, 1, 3));
        Check.due("10 once over the end", "0", x.number(1));
        Check.due("10 smallest int, 16 hours on", 26, x.walk(2, 5, Integer.MIN_VALUE, 40));
        Check.due("10 smallest int, 128 minutes back", 37, x.walk(2, 4, Integer.MIN_VALUE, 40));
    }

    static void promise11Cut() {
        String[] cut = {
            "13:37:42.123456789", "13:37:42.123456000", "13:37:42.123000000", "13:37:42.0", "13:37:0.0", "13:0:0.0",
            "12:0:0.0", "0:0:0.0"
        };
        int[] seconds = {49062, 49062, 49062, 49062, 49020, 46800, 43200, 0};
        Clocksolo x = new Clocksolo();
        for (int unit = 0; unit < 8; unit++) {
            x.tell(0, 13, 37, 42, 123456789);
            Check.due("11 unit " + unit, seconds[unit], x.cut(0, unit));
            Check.due("11 unit " + unit, cut[unit], x.text(0));
            Check.due("11 cut again", seconds[unit], x.cut(0, unit));
            Check.due("11 cut again", cut[unit], x.text(0));
        }
        x.tell(1, 11, 59, 59, 999999999);
        Check.due("11 before noon", 0, x.cut(1, 6));
    }

    static void promise12Of() {
        Clocksolo x = new Clocksolo();
        x.tell(5, 13, 37, 42, 123456789);
        int[] parts = {13, 37, 42, 123456789, 49062};
        for (int what = 0; what < 5; what++) {
            Check.due("12 what " + what, parts[what], x.of(5, what));
            Check.due("12 what " + what + " at first", 0, x.of(0, what));
        }
        x.tellKnown(5, 2);
        int[] last = {23, 59, 59, 999999999, 86399};
        for (int what = 0; what < 5; what++) {
            Check.due("12 last, what " + what, last[what], x.of(5, what));
        }
    }

    static void promise13Number() {
        Clocksolo x = new Clocksolo();
        Check.due("13 first", "0", x.number(0));
        x.tellNumber(0, 0, 10);
        Check.due("13 small", "10", x.number(0));
        x.tellNumber(0, 1, 0);
        Check.due("13 a second", "1000000000", x.number(0));
        x.tellNumber(0, 2, 147483648);
        Check.due("13 beyond an int", "2147483648", x.number(0));
        x.tellKnown(0, 2);
        Check.due("13 last", "86399999999999", x.number(0));
    }

    static void promise14Text() {
        Clocksolo x = new Clocksolo();
        x.tell(6, 9, 5, 0, 7);
        Check.due("14 as the document has it", "9:5:0.7", x.text(6));
        x.tell(6, 10, 20, 30, 100);
        Check.due("14", "10:20:30.100", x.text(6));
        x.tellKnown(6, 2);
        Check.due("14 last", "23:59:59.999999999", x.text(6));
    }

    static void promise15Beyond() {
        Clocksolo x = new Clocksolo();
        x.tell(0, 13, 37, 42, 123456789);
        String[] beyond = {
            "0", "789", "456789", "123456789", "42123456789", "2262123456789", "5862123456789", "49062123456789"
        };
        for (int unit = 0; unit < 8; unit++) {
            Check.due("15 unit " + unit, beyond[unit], x.beyond(0, unit));
            Check.due("15 it stays", "13:37:42.123456789", x.text(0));
            Check.due("15 unit " + unit + " at first", "0", x.beyond(1, unit));
        }
        Check.due("15 counts as no change", 1, x.house(1));
    }

    /** CLOCKS 0 and 3 alike, 1 a nano behind them, 2 hours behind, with smaller parts below the hour. */
    private static Clocksolo laid() {
        Clocksolo x = new Clocksolo();
        x.tell(0, 13, 37, 42, 5);
        x.tell(1, 13, 37, 42, 6);
        x.tell(2, 15, 0, 0, 0);
        x.tell(3, 13, 37, 42, 5);
        return x;
    }

    static void promise16Compare() {
        Clocksolo x = laid();
        Check.due("16 ahead", -1, x.compare(0, 1));
        Check.due("16 behind", 1, x.compare(1, 0));
        Check.due("16 ahead by hours", -1, x.compare(1, 2));
        Check.due("16 behind by hours", 1, x.compare(2, 1));
        Check.due("16 alike", 0, x.compare(0, 3));
        Check.due("16 the same", 0, x.compare(2, 2));
    }

    static void promise17IsAhead() {
        Clocksolo x = laid();
        Check.due("17 ahead", true, x.isAhead(0, 1));
        Check.due("17 behind", false, x.isAhead(1, 0));
        Check.due("17 ahead by hours", true, x.isAhead(1, 2));
        Check.due("17 alike", false, x.isAhead(0, 3));
        Check.due("17 the same", false, x.isAhead(2, 2));
    }

    static void promise18IsBehind() {
        Clocksolo x = laid();
        Check.due("18 ahead", false, x.isBehind(0, 1));
        Check.due("18 behind", true, x.isBehind(1, 0));
        Check.due("18 behind by hours", true, x.isBehind(2, 1));
        Check.due("18 alike", false, x.isBehind(0, 3));
        Check.due("18 the same", false, x.isBehind(2, 2));
    }

    static void promise19AreAlike() {
        Clocksolo x = laid();
        Check.due("19 a nano apart", false, x.areAlike(0, 1));
        Check.due("19 a nano apart", false, x.areAlike(1, 0));
        Check.due("19 alike", true, x.areAlike(0, 3));
        Check.due("19 the same", true, x.areAlike(2, 2));
    }

    static void promise20Between() {
        Clocksolo x = new Clocksolo();
        x.tell(0, 13, 37, 42, 123456789);
        String[] units = {"49062123456789", "49062123456", "49062123", "49062", "817", "13", "1"};
        for (int unit = 0; unit < 7; unit++) {
            Check.due("20 on, unit " + unit, units[unit], x.between(1, 0, unit));
            Check.due("20 back, unit " + unit, "-" + units[unit], x.between(0, 1, unit));
            Check.due("20 the same, unit " + unit, "0", x.between(0, 0, unit));
        }
        x.tellKnown(2, 1);
        x.tellKnown(3, 2);
        Check.due("20 less than half a day", "0", x.between(2, 3, 6));
        Check.due("20 less than half a day, back", "0", x.between(3, 2, 6));
        Check.due("20 towards 0", "-11", x.between(3, 2, 5));
        Check.due("20 towards 0", "-719", x.between(3, 2, 4));
        Check.due("20 the whole day", "86399999999999", x.between(4, 3, 0));
    }

    static void promise21Order() {
        Clocksolo x = new Clocksolo();
        Check.due("21 at first", "0 1 2 3 4 5 6 7", x.order());
        for (int clock = 0; clock < 8; clock++) {
            x.tellSecond(clock, 100 - clock);
        }
        Check.due("21 turned round", "7 6 5 4 3 2 1 0", x.order());
        x.take(2, 6);
        Check.due("21 like ones by which they are", "7 2 6 5 4 3 1 0", x.order());
        x.plus(2, 0, 1, 1);
        Check.due("21 a nano apart", "7 6 2 5 4 3 1 0", x.order());
    }

    static void promise22Kinds() {
        Clocksolo x = new Clocksolo();
        Check.due("22 at first", 1, x.kinds());
        for (int clock = 0; clock < 8; clock++) {
            x.tellNumber(clock, 100, clock);
        }
        Check.due("22 all unlike", 8, x.kinds());
        x.take(7, 0);
        Check.due("22 the last like the first", 7, x.kinds());
        x.take(3, 4);
        Check.due("22 two pairs", 6, x.kinds());
        x.take(1, 0);
        Check.due("22 three alike", 5, x.kinds());
    }

    static void promise23Knock() {
        Clocksolo x = new Clocksolo();
        Check.due("23", 1, x.knock());
        Check.due("23", 2, x.knock());
        x.tellKnown(0, 1);
        Check.due("23", 3, x.knock());
    }

    static void promise24House() {
        Clocksolo x = new Clocksolo();
        x.tell(0, 1, 2, 3, 4);
        Check.due("24 tell", 1, x.house(1));
        x.tellSecond(0, 1);
        Check.due("24 tellSecond", 2, x.house(1));
        x.tellNumber(0, 1, 0);
        Check.due("24 tellNumber", 3, x.house(1));
        x.tellKnown(0, 0);
        Check.due("24 tellKnown", 4, x.house(1));
        x.take(0, 0);
        Check.due("24 take, also if nothing is other", 5, x.house(1));
        x.with(0, 0, 0);
        Check.due("24 with", 6, x.house(1));
        x.plus(0, 0, 0, 0);
        Check.due("24 plus", 7, x.house(1));
        x.minus(0, 0, 0, 0);
        Check.due("24 minus", 8, x.house(1));
        x.walk(0, 0, 1, 40);
        Check.due("24 walk once", 9, x.house(1));
        x.walk(0, 0, 1, 0);
        Check.due("24 walk of no steps", 10, x.house(1));
        x.cut(0, 0);
        Check.due("24 cut", 11, x.house(1));
        askEverything(x);
        Check.due("24 asking changes nothing", 11, x.house(1));
        Check.due("24 asking is no knock", 0, x.house(0));
        x.knock();
        x.knock();
        Check.due("24 knocks", 2, x.house(0));
        Check.due("24 a knock is no change", 11, x.house(1));
    }

    private static void askEverything(Clocksolo x) {
        x.of(0, 4);
        x.number(0);
        x.text(0);
        x.beyond(0, 3);
        x.compare(0, 1);
        x.isAhead(0, 1);
        x.isBehind(0, 1);
        x.areAlike(0, 1);
        x.between(0, 1, 3);
        x.order();
        x.kinds();
        x.isSound();
        x.digest();
    }

    static void promise25IsSound() {
        Clocksolo x = new Clocksolo();
        Check.due("25 at first", true, x.isSound());
        x.tell(0, 13, 37, 42, 123456789);
        x.tellKnown(1, 2);
        x.tellKnown(2, 1);
        x.tellSecond(3, 86399);
        x.tellNumber(4, 0, 999999999);
        x.minus(5, 0, 1, Integer.MAX_VALUE);
        x.walk(6, 5, -1, 7);
        Check.due("25 clocks of all sorts", true, x.isSound());
        Check.due("25 asking changes nothing", "86399999999999", x.number(1));
    }

    static void promise26Digest() {
        Clocksolo x = new Clocksolo();
        Check.due("26 at first", -3802058015114426150L, x.digest());
        Check.due("26 asking changes nothing", -3802058015114426150L, x.digest());
        x.tell(0, 13, 37, 42, 123456789);
        x.tell(5, 23, 1, 2, 3);
        x.take(6, 5);
        x.knock();
        Check.due("26 by the document's own order", Check.digestByTheFace(x), x.digest());
    }
}
