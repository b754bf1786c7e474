import java.util.Arrays;

/** Each promise by written examples: ordinary inputs, the edges that the document names, and wrong inputs. */
public final class PromiseTest {
    private static final int[] NO_CLOCKS = {-1, 8, 9, Integer.MIN_VALUE, Integer.MAX_VALUE};
    private static final int[] STEP_UNITS = {0, 3, 4, 5};
    private static final int[] NO_STEP_UNITS = {-1, 1, 2, 6, 7, 8, Integer.MIN_VALUE, Integer.MAX_VALUE};
    private static final int[] NO_UNITS = {-1, 8, 9, Integer.MIN_VALUE, Integer.MAX_VALUE};

    private static int wrong = 0;
    private static int looked = 0;

    private interface Call {
        Object answer();
    }

    public static void main(String[] args) {
        promise1NewObject();
        promise2Tell();
        promise3TellSecond();
        promise4TellNumber();
        promise5TellKnown();
        promise6Take();
        promise7With();
        promise8Plus();
        promise9Minus();
        promise10Walk();
        promise11Cut();
        promise12Of();
        promise13Number();
        promise14Text();
        promise15Beyond();
        promise16Compare();
        promise17IsAhead();
        promise18IsBehind();
        promise19AreAlike();
        promise20Between();
        promise21Order();
        promise22Kinds();
        promise23Knock();
        promise24House();
        promise25IsSound();
        promise26Digest();
        System.out.println(looked + " answers looked at, " + wrong + " wrong");
        if (wrong != 0) {
            System.exit(1);
        }
    }

    private static void promise1NewObject() {
        Clocksolo x = new Clocksolo();
        for (int clock = 0; clock < 8; clock++) {
            due("1 number " + clock, "0", x.number(clock));
            due("1 text " + clock, "0:0:0.0", x.text(clock));
        }
        due("1 house(0)", 0, x.house(0));
        due("1 house(1)", 0, x.house(1));
        Clocksolo other = new Clocksolo();
        x.tell(3, 1, 2, 3, 4);
        x.knock();
        due("1 objects share no clock", "0", other.number(3));
        due("1 objects share no knock", 0, other.house(0));
    }

    private static void promise2Tell() {
        Clocksolo x = new Clocksolo();
        due("2", 49062, x.tell(0, 13, 37, 42, 123456789));
        due("2", "13:37:42.123456789", x.text(0));
        due("2 others stay", "0:0:0.0", x.text(1));
        due("2 first", 0, x.tell(7, 0, 0, 0, 0));
        due("2 last", 86399, x.tell(7, 23, 59, 59, 999999999));
        due("2 last", "86399999999999", x.number(7));
        for (int clock : NO_CLOCKS) {
            outOfBounds("2", x, () -> x.tell(clock, 0, 0, 0, 0));
            outOfBounds("2 both wrong", x, () -> x.tell(clock, 24, 60, 60, -1));
        }
        for (int hour : new int[] {-1, 24, Integer.MIN_VALUE, Integer.MAX_VALUE}) {
            illegal("2 hour", x, () -> x.tell(0, hour, 0, 0, 0));
        }
        for (int sixtieth : new int[] {-1, 60, Integer.MIN_VALUE, Integer.MAX_VALUE}) {
            illegal("2 minute", x, () -> x.tell(0, 0, sixtieth, 0, 0));
            illegal("2 second", x, () -> x.tell(0, 0, 0, sixtieth, 0));
        }
        for (int nano : new int[] {-1, 1000000000, Integer.MIN_VALUE, Integer.MAX_VALUE}) {
            illegal("2 nano", x, () -> x.tell(0, 0, 0, 0, nano));
        }
    }

    private static void promise3TellSecond() {
        Clocksolo x = new Clocksolo();
        x.tell(1, 5, 6, 7, 8);
        due("3", 13, x.tellSecond(1, 49062));
        due("3 nano is 0 then", "13:37:42.0", x.text(1));
        due("3 first", 0, x.tellSecond(1, 0));
        due("3 end of an hour", 0, x.tellSecond(1, 3599));
        due("3 start of an hour", 1, x.tellSecond(1, 3600));
        due("3 last", 23, x.tellSecond(1, 86399));
        due("3 last", "86399000000000", x.number(1));
        for (int clock : NO_CLOCKS) {
            outOfBounds("3", x, () -> x.tellSecond(clock, 0));
            outOfBounds("3 both wrong", x, () -> x.tellSecond(clock, -1));
        }
        for (int second : new int[] {-1, 86400, Integer.MIN_VALUE, Integer.MAX_VALUE}) {
            illegal("3", x, () -> x.tellSecond(1, second));
        }
    }

    private static void promise4TellNumber() {
        Clocksolo x = new Clocksolo();
        due("4", 13, x.tellNumber(2, 49062, 123456789));
        due("4", "49062123456789", x.number(2));
        due("4", "13:37:42.123456789", x.text(2));
        due("4 first", 0, x.tellNumber(2, 0, 0));
        due("4 first", "0", x.number(2));
        due("4 last", 23, x.tellNumber(2, 86399, 999999999));
        due("4 last", "86399999999999", x.number(2));
        for (int clock : NO_CLOCKS) {
            outOfBounds("4", x, () -> x.tellNumber(clock, 0, 0));
            outOfBounds("4 both wrong", x, () -> x.tellNumber(clock, -1, -1));
        }
        for (int second : new int[] {-1, 86400, Integer.MIN_VALUE, Integer.MAX_VALUE}) {
            illegal("4 second", x, () -> x.tellNumber(2, second, 0));
        }
        for (int nano : new int[] {-1, 1000000000, Integer.MIN_VALUE, Integer.MAX_VALUE}) {
            illegal("4 nano", x, () -> x.tellNumber(2, 0, nano));
        }
    }

    private static void promise5TellKnown() {
        Clocksolo x = new Clocksolo();
        due("5 noon", 43200, x.tellKnown(3, 1));
        due("5 noon", "12:0:0.0", x.text(3));
        due("5 last", 86399, x.tellKnown(3, 2));
        due("5 last", "23:59:59.999999999", x.text(3));
        due("5 first", 0, x.tellKnown(3, 0));
        due("5 first", "0:0:0.0", x.text(3));
        for (int clock : NO_CLOCKS) {
            outOfBounds("5", x, () -> x.tellKnown(clock, 0));
            outOfBounds("5 both wrong", x, () -> x.tellKnown(clock, 3));
        }
        for (int which : new int[] {-1, 3, Integer.MIN_VALUE, Integer.MAX_VALUE}) {
            illegal("5", x, () -> x.tellKnown(3, which));
        }
    }

    private static void promise6Take() {
        Clocksolo x = new Clocksolo();
        x.tell(0, 1, 2, 3, 4);
        due("6 another NUMBER", 1, x.take(1, 0));
        due("6", "1:2:3.4", x.text(1));
        due("6 other stays", "1:2:3.4", x.text(0));
        due("6 the same NUMBER", 0, x.take(1, 0));
        due("6 itself", 0, x.take(0, 0));
        x.plus(0, 0, 1, 1);
        due("6 as it is now, not later", "1:2:3.4", x.text(1));
        due("6 a nano apart", 1, x.take(0, 1));
        for (int clock : NO_CLOCKS) {
            outOfBounds("6", x, () -> x.take(clock, 0));
            outOfBounds("6 other", x, () -> x.take(0, clock));
            outOfBounds("6 both", x, () -> x.take(clock, clock));
        }
    }

    private static void promise7With() {
        Clocksolo x = new Clocksolo();
        x.tell(0, 13, 37, 42, 123456789);
        due("7 hour", 13, x.with(0, 0, 23));
        due("7 hour", "23:37:42.123456789", x.text(0));
        due("7 minute", 37, x.with(0, 1, 59));
        due("7 minute", "23:59:42.123456789", x.text(0));
        due("7 second", 42, x.with(0, 2, 59));
        due("7 second", "23:59:59.123456789", x.text(0));
        due("7 nano", 123456789, x.with(0, 3, 999999999));
        due("7 nano", "23:59:59.999999999", x.text(0));
        due("7 hour to 0", 23, x.with(0, 0, 0));
        due("7 minute to 0", 59, x.with(0, 1, 0));
        due("7 second to 0", 59, x.with(0, 2, 0));
        due("7 nano to 0", 999999999, x.with(0, 3, 0));
        due("7 all 0", "0:0:0.0", x.text(0));
        due("7 as it is", 0, x.with(0, 3, 0));
        for (int clock : NO_CLOCKS) {
            outOfBounds("7", x, () -> x.with(clock, 0, 0));
            outOfBounds("7 both wrong", x, () -> x.with(clock, 4, -1));
        }
        for (int what : new int[] {-1, 4, 5, Integer.MIN_VALUE, Integer.MAX_VALUE}) {
            illegal("7 what", x, () -> x.with(0, what, 0));
        }
        int[] ends = {24, 60, 60, 1000000000};
        for (int what = 0; what < 4; what++) {
            int part = what;
            for (int value : new int[] {-1, ends[what], Integer.MIN_VALUE, Integer.MAX_VALUE}) {
                illegal("7 value", x, () -> x.with(0, part, value));
            }
        }
    }

    private static void promise8Plus() {
        Clocksolo x = new Clocksolo();
        due("8 an hour", 3600, x.plus(0, 5, 1, 1));
        due("8 a minute", 3660, x.plus(0, 4, 1, 1));
        due("8 a second", 3661, x.plus(0, 3, 1, 1));
        due("8 a nano", 3661, x.plus(0, 0, 1, 1));
        due("8", "1:1:1.1", x.text(0));
        due("8 amount times times", 3667, x.plus(0, 3, 2, 3));
        due("8 below 0 is back", 3661, x.plus(0, 3, -2, 3));
        due("8 below 0 twice is on", 3667, x.plus(0, 3, -2, -3));
        due("8 no times", 3667, x.plus(0, 3, 77, 0));
        due("8 no amount", 3667, x.plus(0, 3, 0, 77));
        x.tellKnown(1, 2);
        due("8 over the end", 0, x.plus(1, 0, 1, 1));
        due("8 over the beginning", 86399, x.plus(1, 0, -1, 1));
        due("8 a whole day", 86399, x.plus(1, 5, 24, 1));
        x.tellKnown(2, 0);
        due("8 hours beyond a long of nanos", 3600, x.plus(2, 5, Integer.MAX_VALUE, Integer.MAX_VALUE));
        x.tell(3, 0, 59, 0, 999999999);
        due("8 nanos, greatest product", 3159, x.plus(3, 0, Integer.MIN_VALUE, Integer.MIN_VALUE));
        due("8 nanos, greatest product", "3159427387903", x.number(3));
        due("8 others stay", "0:0:0.0", x.text(4));
        for (int clock : NO_CLOCKS) {
            outOfBounds("8", x, () -> x.plus(clock, 0, 1, 1));
            outOfBounds("8 both wrong", x, () -> x.plus(clock, 1, 1, 1));
        }
        for (int unit : NO_STEP_UNITS) {
            illegal("8", x, () -> x.plus(0, unit, 1, 1));
        }
    }

    private static void promise9Minus() {
        Clocksolo x = new Clocksolo();
        x.tell(0, 13, 37, 42, 5);
        due("9 an hour", 45462, x.minus(0, 5, 1, 1));
        due("9 a minute", 45402, x.minus(0, 4, 1, 1));
        due("9 a second", 45401, x.minus(0, 3, 1, 1));
        due("9 a nano", 45401, x.minus(0, 0, 1, 1));
        due("9", "12:36:41.4", x.text(0));
        due("9 amount times times", 45395, x.minus(0, 3, 2, 3));
        due("9 below 0 is on", 45401, x.minus(0, 3, 2, -3));
        due("9 below 0 twice is back", 45395, x.minus(0, 3, -2, -3));
        due("9 no times", 45395, x.minus(0, 3, 77, 0));
        due("9 over the beginning", 86399, x.minus(1, 0, 1, 1));
        due("9 over the beginning", "86399999999999", x.number(1));
        due("9 over the end", 0, x.minus(1, 0, -1, 1));
        due("9 a whole day", 0, x.minus(1, 4, 1440, 1));
        x.tell(2, 0, 59, 0, 999999999);
        due("9 many", 25940, x.minus(2, 3, 100000, 100000));
        for (int unit : STEP_UNITS) {
            x.tell(3, 7, 8, 9, 10);
            x.plus(3, unit, Integer.MIN_VALUE, Integer.MIN_VALUE);
            x.minus(3, unit, Integer.MIN_VALUE, Integer.MIN_VALUE);
            due("9 undoes the greatest product, unit " + unit, "7:8:9.10", x.text(3));
            x.plus(3, unit, Integer.MIN_VALUE, 1);
            x.minus(3, unit, Integer.MIN_VALUE, 1);
            due("9 undoes the smallest int, unit " + unit, "7:8:9.10", x.text(3));
        }
        due("9 smallest int goes on", 11648, new Clocksolo().minus(0, 3, Integer.MIN_VALUE, 1));
        for (int clock : NO_CLOCKS) {
            outOfBounds("9", x, () -> x.minus(clock, 0, 1, 1));
            outOfBounds("9 both wrong", x, () -> x.minus(clock, 1, 1, 1));
        }
        for (int unit : NO_STEP_UNITS) {
            illegal("9", x, () -> x.minus(0, unit, 1, 1));
        }
    }

    private static void promise10Walk() {
        Clocksolo x = new Clocksolo();
        due("10", 1, x.walk(0, 4, 59, 40));
        due("10", "15:20:0.0", x.text(0));
        due("10 back", 39, x.walk(0, 4, -59, 40));
        due("10 back", "0:0:0.0", x.text(0));
        due("10 whole days are no smaller NUMBER", 0, x.walk(0, 5, 24, 40));
        due("10 none", 0, x.walk(0, 3, 77, 0));
        due("10 nothing put on", 0, x.walk(0, 3, 0, 40));
        due("10 nanos back", 2, x.walk(1, 0, -1, 3));
        due("10 nanos back", "86399999999997", x.number(1));
        due("10 once over the end", 1, x.walk(1, 0, 1, 3));
        due("10 once over the end", "0", x.number(1));
        due("10 smallest int, 16 hours on", 26, x.walk(2, 5, Integer.MIN_VALUE, 40));
        due("10 smallest int, 128 minutes back", 37, x.walk(2, 4, Integer.MIN_VALUE, 40));
        for (int clock : NO_CLOCKS) {
            outOfBounds("10", x, () -> x.walk(clock, 0, 1, 1));
            outOfBounds("10 all wrong", x, () -> x.walk(clock, 1, 1, 41));
        }
        for (int unit : NO_STEP_UNITS) {
            illegal("10 unit", x, () -> x.walk(0, unit, 1, 1));
        }
        for (int times : new int[] {-1, 41, Integer.MIN_VALUE, Integer.MAX_VALUE}) {
            illegal("10 times", x, () -> x.walk(0, 0, 1, times));
        }
    }

    private static void promise11Cut() {
        String[] cut = {
            "13:37:42.123456789", "13:37:42.123456000", "13:37:42.123000000", "13:37:42.0", "13:37:0.0", "13:0:0.0",
            "12:0:0.0", "0:0:0.0"
        };
        int[] seconds = {49062, 49062, 49062, 49062, 49020, 46800, 43200, 0};
        Clocksolo x = new Clocksolo();
        for (int unit = 0; unit < 8; unit++) {
            x.tell(0, 13, 37, 42, 123456789);
            due("11 unit " + unit, seconds[unit], x.cut(0, unit));
            due("11 unit " + unit, cut[unit], x.text(0));
            due("11 cut again", seconds[unit], x.cut(0, unit));
            due("11 cut again", cut[unit], x.text(0));
        }
        x.tell(1, 11, 59, 59, 999999999);
        due("11 before noon", 0, x.cut(1, 6));
        for (int clock : NO_CLOCKS) {
            outOfBounds("11", x, () -> x.cut(clock, 0));
            outOfBounds("11 both wrong", x, () -> x.cut(clock, 8));
        }
        for (int unit : NO_UNITS) {
            illegal("11", x, () -> x.cut(0, unit));
        }
    }

    private static void promise12Of() {
        Clocksolo x = new Clocksolo();
        x.tell(5, 13, 37, 42, 123456789);
        int[] parts = {13, 37, 42, 123456789, 49062};
        for (int what = 0; what < 5; what++) {
            due("12 what " + what, parts[what], x.of(5, what));
            due("12 what " + what + " at first", 0, x.of(0, what));
        }
        x.tellKnown(5, 2);
        int[] last = {23, 59, 59, 999999999, 86399};
        for (int what = 0; what < 5; what++) {
            due("12 last, what " + what, last[what], x.of(5, what));
        }
        for (int clock : NO_CLOCKS) {
            outOfBounds("12", x, () -> x.of(clock, 0));
            outOfBounds("12 both wrong", x, () -> x.of(clock, 5));
        }
        for (int what : new int[] {-1, 5, Integer.MIN_VALUE, Integer.MAX_VALUE}) {
            illegal("12", x, () -> x.of(5, what));
        }
    }

    private static void promise13Number() {
        Clocksolo x = new Clocksolo();
        due("13 first", "0", x.number(0));
        x.tellNumber(0, 0, 10);
        due("13 small", "10", x.number(0));
        x.tellNumber(0, 1, 0);
        due("13 a second", "1000000000", x.number(0));
        x.tellNumber(0, 2, 147483648);
        due("13 beyond an int", "2147483648", x.number(0));
        x.tellKnown(0, 2);
        due("13 last", "86399999999999", x.number(0));
        for (int clock : NO_CLOCKS) {
            outOfBounds("13", x, () -> x.number(clock));
        }
    }

    private static void promise14Text() {
        Clocksolo x = new Clocksolo();
        x.tell(6, 9, 5, 0, 7);
        due("14 as the document has it", "9:5:0.7", x.text(6));
        x.tell(6, 10, 20, 30, 100);
        due("14", "10:20:30.100", x.text(6));
        x.tellKnown(6, 2);
        due("14 last", "23:59:59.999999999", x.text(6));
        for (int clock : NO_CLOCKS) {
            outOfBounds("14", x, () -> x.text(clock));
        }
    }

    private static void promise15Beyond() {
        Clocksolo x = new Clocksolo();
        x.tell(0, 13, 37, 42, 123456789);
        String[] beyond = {
            "0", "789", "456789", "123456789", "42123456789", "2262123456789", "5862123456789", "49062123456789"
        };
        for (int unit = 0; unit < 8; unit++) {
            due("15 unit " + unit, beyond[unit], x.beyond(0, unit));
            due("15 it stays", "13:37:42.123456789", x.text(0));
            due("15 unit " + unit + " at first", "0", x.beyond(1, unit));
        }
        due("15 counts as no change", 1, x.house(1));
        for (int clock : NO_CLOCKS) {
            outOfBounds("15", x, () -> x.beyond(clock, 0));
            outOfBounds("15 both wrong", x, () -> x.beyond(clock, 8));
        }
        for (int unit : NO_UNITS) {
            illegal("15", x, () -> x.beyond(0, unit));
        }
    }

    /** CLOCKS 0 and 3 alike, 1 a nano behind them, 2 hours behind, with smaller parts below the hour. */
    private static Clocksolo laid() {
        Clocksolo x = new Clocksolo();
        x.tell(0, 13, 37, 42, 5);
        x.tell(1, 13, 37, 42, 6);
        x.tell(2, 15, 0, 0, 0);
        x.tell(3, 13, 37, 42, 5);
        return x;
    }

    private static void promise16Compare() {
        Clocksolo x = laid();
        due("16 ahead", -1, x.compare(0, 1));
        due("16 behind", 1, x.compare(1, 0));
        due("16 ahead by hours", -1, x.compare(1, 2));
        due("16 behind by hours", 1, x.compare(2, 1));
        due("16 alike", 0, x.compare(0, 3));
        due("16 the same", 0, x.compare(2, 2));
        for (int clock : NO_CLOCKS) {
            outOfBounds("16", x, () -> x.compare(clock, 0));
            outOfBounds("16 other", x, () -> x.compare(0, clock));
            outOfBounds("16 both", x, () -> x.compare(clock, clock));
        }
    }

    private static void promise17IsAhead() {
        Clocksolo x = laid();
        due("17 ahead", true, x.isAhead(0, 1));
        due("17 behind", false, x.isAhead(1, 0));
        due("17 ahead by hours", true, x.isAhead(1, 2));
        due("17 alike", false, x.isAhead(0, 3));
        due("17 the same", false, x.isAhead(2, 2));
        for (int clock : NO_CLOCKS) {
            outOfBounds("17", x, () -> x.isAhead(clock, 0));
            outOfBounds("17 other", x, () -> x.isAhead(0, clock));
            outOfBounds("17 both", x, () -> x.isAhead(clock, clock));
        }
    }

    private static void promise18IsBehind() {
        Clocksolo x = laid();
        due("18 ahead", false, x.isBehind(0, 1));
        due("18 behind", true, x.isBehind(1, 0));
        due("18 behind by hours", true, x.isBehind(2, 1));
        due("18 alike", false, x.isBehind(0, 3));
        due("18 the same", false, x.isBehind(2, 2));
        for (int clock : NO_CLOCKS) {
            outOfBounds("18", x, () -> x.isBehind(clock, 0));
            outOfBounds("18 other", x, () -> x.isBehind(0, clock));
            outOfBounds("18 both", x, () -> x.isBehind(clock, clock));
        }
    }

    private static void promise19AreAlike() {
        Clocksolo x = laid();
        due("19 a nano apart", false, x.areAlike(0, 1));
        due("19 a nano apart", false, x.areAlike(1, 0));
        due("19 alike", true, x.areAlike(0, 3));
        due("19 the same", true, x.areAlike(2, 2));
        for (int clock : NO_CLOCKS) {
            outOfBounds("19", x, () -> x.areAlike(clock, 0));
            outOfBounds("19 other", x, () -> x.areAlike(0, clock));
            outOfBounds("19 both", x, () -> x.areAlike(clock, clock));
        }
    }

    private static void promise20Between() {
        Clocksolo x = new Clocksolo();
        x.tell(0, 13, 37, 42, 123456789);
        String[] units = {"49062123456789", "49062123456", "49062123", "49062", "817", "13", "1"};
        for (int unit = 0; unit < 7; unit++) {
            due("20 on, unit " + unit, units[unit], x.between(1, 0, unit));
            due("20 back, unit " + unit, "-" + units[unit], x.between(0, 1, unit));
            due("20 the same, unit " + unit, "0", x.between(0, 0, unit));
        }
        x.tellKnown(2, 1);
        x.tellKnown(3, 2);
        due("20 less than half a day", "0", x.between(2, 3, 6));
        due("20 less than half a day, back", "0", x.between(3, 2, 6));
        due("20 towards 0", "-11", x.between(3, 2, 5));
        due("20 towards 0", "-719", x.between(3, 2, 4));
        due("20 the whole day", "86399999999999", x.between(4, 3, 0));
        for (int clock : NO_CLOCKS) {
            outOfBounds("20", x, () -> x.between(clock, 0, 0));
            outOfBounds("20 other", x, () -> x.between(0, clock, 0));
            outOfBounds("20 all wrong", x, () -> x.between(0, clock, 7));
        }
        for (int unit : new int[] {-1, 7, 8, Integer.MIN_VALUE, Integer.MAX_VALUE}) {
            illegal("20", x, () -> x.between(0, 1, unit));
        }
    }

    private static void promise21Order() {
        Clocksolo x = new Clocksolo();
        due("21 at first", "0 1 2 3 4 5 6 7", x.order());
        for (int clock = 0; clock < 8; clock++) {
            x.tellSecond(clock, 100 - clock);
        }
        due("21 turned round", "7 6 5 4 3 2 1 0", x.order());
        x.take(2, 6);
        due("21 like ones by which they are", "7 2 6 5 4 3 1 0", x.order());
        x.plus(2, 0, 1, 1);
        due("21 a nano apart", "7 6 2 5 4 3 1 0", x.order());
    }

    private static void promise22Kinds() {
        Clocksolo x = new Clocksolo();
        due("22 at first", 1, x.kinds());
        for (int clock = 0; clock < 8; clock++) {
            x.tellNumber(clock, 100, clock);
        }
        due("22 all unlike", 8, x.kinds());
        x.take(7, 0);
        due("22 the last like the first", 7, x.kinds());
        x.take(3, 4);
        due("22 two pairs", 6, x.kinds());
        x.take(1, 0);
        due("22 three alike", 5, x.kinds());
    }

    private static void promise23Knock() {
        Clocksolo x = new Clocksolo();
        due("23", 1, x.knock());
        due("23", 2, x.knock());
        x.tellKnown(0, 1);
        due("23", 3, x.knock());
    }

    private static void promise24House() {
        Clocksolo x = new Clocksolo();
        x.tell(0, 1, 2, 3, 4);
        due("24 tell", 1, x.house(1));
        x.tellSecond(0, 1);
        due("24 tellSecond", 2, x.house(1));
        x.tellNumber(0, 1, 0);
        due("24 tellNumber", 3, x.house(1));
        x.tellKnown(0, 0);
        due("24 tellKnown", 4, x.house(1));
        x.take(0, 0);
        due("24 take, also if nothing is other", 5, x.house(1));
        x.with(0, 0, 0);
        due("24 with", 6, x.house(1));
        x.plus(0, 0, 0, 0);
        due("24 plus", 7, x.house(1));
        x.minus(0, 0, 0, 0);
        due("24 minus", 8, x.house(1));
        x.walk(0, 0, 1, 40);
        due("24 walk once", 9, x.house(1));
        x.walk(0, 0, 1, 0);
        due("24 walk of no steps", 10, x.house(1));
        x.cut(0, 0);
        due("24 cut", 11, x.house(1));
        askEverything(x);
        due("24 asking changes nothing", 11, x.house(1));
        due("24 asking is no knock", 0, x.house(0));
        x.knock();
        x.knock();
        due("24 knocks", 2, x.house(0));
        due("24 a knock is no change", 11, x.house(1));
        for (int what : new int[] {-1, 2, 3, Integer.MIN_VALUE, Integer.MAX_VALUE}) {
            illegal("24", x, () -> x.house(what));
        }
    }

    private static void askEverything(Clocksolo x) {
        x.of(0, 4);
        x.number(0);
        x.text(0);
        x.beyond(0, 3);
        x.compare(0, 1);
        x.isAhead(0, 1);
        x.isBehind(0, 1);
        x.areAlike(0, 1);
        x.between(0, 1, 3);
        x.order();
        x.kinds();
        x.isSound();
        x.digest();
    }

    private static void promise25IsSound() {
        Clocksolo x = new Clocksolo();
        due("25 at first", true, x.isSound());
        x.tell(0, 13, 37, 42, 123456789);
        x.tellKnown(1, 2);
        x.tellKnown(2, 1);
        x.tellSecond(3, 86399);
        x.tellNumber(4, 0, 999999999);
        x.minus(5, 0, 1, Integer.MAX_VALUE);
        x.walk(6, 5, -1, 7);
        due("25 clocks of all sorts", true, x.isSound());
        due("25 asking changes nothing", "86399999999999", x.number(1));
    }

    private static void promise26Digest() {
        Clocksolo x = new Clocksolo();
        due("26 at first", -3802058015114426150L, x.digest());
        due("26 asking changes nothing", -3802058015114426150L, x.digest());
        x.tell(0, 13, 37, 42, 123456789);
        x.tell(5, 23, 1, 2, 3);
        x.take(6, 5);
        x.knock();
        due("26 by the document's own order", digestByTheFace(x), x.digest());
    }

    private static long digestByTheFace(Clocksolo x) {
        long d = 7788;
        d = d * 31 + x.house(0);
        d = d * 31 + x.house(1);
        for (int clock = 0; clock < 8; clock++) {
            for (int what = 0; what < 5; what++) {
                d = d * 31 + x.of(clock, what);
            }
            d = d * 31 + Long.parseLong(x.number(clock));
        }
        for (int clock = 0; clock < 8; clock++) {
            d = d * 31 + x.compare(0, clock);
            for (int unit = 0; unit < 7; unit++) {
                d = d * 31 + Long.parseLong(x.between(0, clock, unit));
            }
        }
        d = d * 31 + x.kinds();
        for (char sign : x.order().toCharArray()) {
            d = d * 31 + sign;
        }
        return d * 31 + (x.isSound() ? 1 : 0);
    }

    private static void due(String call, Object want, Object got) {
        looked++;
        if (!want.equals(got)) {
            wrong++;
            System.out.println("promise " + call + ": answered " + got + ", due is " + want);
        }
    }

    private static void outOfBounds(String call, Clocksolo x, Call asked) {
        throwing(call, x, asked, IndexOutOfBoundsException.class);
    }

    private static void illegal(String call, Clocksolo x, Call asked) {
        throwing(call, x, asked, IllegalArgumentException.class);
    }

    /** The exact class: one that the machine throws is often a class below the due one. */
    private static void throwing(String call, Clocksolo x, Call asked, Class<?> want) {
        String before = state(x);
        Object got;
        try {
            got = asked.answer();
        } catch (RuntimeException e) {
            got = e.getClass();
        }
        due(call, want, got);
        due(call + " changes nothing", before, state(x));
    }

    private static String state(Clocksolo x) {
        String[] texts = new String[8];
        for (int clock = 0; clock < 8; clock++) {
            texts[clock] = x.text(clock);
        }
        return Arrays.toString(texts) + " " + x.house(0) + " " + x.house(1);
    }
}
