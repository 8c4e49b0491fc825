import java.time.DayOfWeek;
import java.time.LocalDate;
import java.time.Year;

/** The promises of the document one by one: ordinary inputs, the edges that it names, and wrong inputs. */
public final class PromisesTest {
    private static final String MOONS = "m29,30,29,30;e-100;i4,29;c3:1";
    private static final String JULIAN = "m31,28,31,30,31,30,31,31,30,31,30,31;e-2;d2;l4+";
    /** Its days 999999 and, counted from the other end, -999999 are inside. */
    private static final String LATE = "m60,60,60,60,11;e500000";
    private static final String EARLY = "m60,60,60,60,11;e-500000";

    private PromisesTest() {
    }

    public static void main(String[] args) {
        promise1();
        promise2();
        promise3();
        promise3Possible();
        promise4();
        promise5and6();
        promise7();
        promise8to10();
        promise11and12();
        promise13();
        promise14();
        promise15();
        promise16to18();
        promise19();
        promise20();
        promise21();
        promise22();
        promise23and24();
        promise25();
        promise25RulesThreeAndFour();
        promise26and27();
        promise28();
        promise29to31();
        promise32and33();
        promise34();
        promise35and36();
        promise37();
        promise38and39();
        Due.end("PromisesTest");
    }

    private static void write(CalendarConverter x, String text) {
        for (int i = 0; i < text.length(); i++) {
            x.appendCharacter(text.charAt(i));
        }
    }

    private static int set(CalendarConverter x, int number, String text) {
        write(x, text);
        return x.setCalendar(number);
    }

    private static CalendarConverter with(String... texts) {
        CalendarConverter x = new CalendarConverter();
        for (String text : texts) {
            set(x, x.calendarCount(), text);
        }
        return x;
    }

    private static String output(CalendarConverter x) {
        StringBuilder s = new StringBuilder();
        for (int i = 0; !Due.answer(() -> x.output(s.length())).startsWith("Index"); i++) {
            s.append(x.output(i));
        }
        return s.toString();
    }

    private static void promise1() {
        CalendarConverter x = new CalendarConverter();
        Due.is("calendars at first", 1, x::calendarCount);
        Due.is("feasts at first", 0, x::feastCount);
        Due.is("fault position at first", -1, x::faultPosition);
        Due.is("different days at first", 0, x::differentDays);
        Due.index("reading at first", () -> x.reading(0, 0));
        Due.index("output at first", () -> x.output(0));
        Due.state("undo at first", x::undo);
        Due.state("restore at first", x::restore);
        int[] due = {12, 0, 1, 1, 7, 0, 4, 400};
        for (int part = 0; part < 8; part++) {
            int p = part;
            Due.is("calendar 0 part " + p, due[p], () -> x.calendar(0, p));
        }
        int[] lengths = {31, 28, 31, 30, 31, 30, 31, 31, 30, 31, 30, 31};
        for (int month = 1; month <= 12; month++) {
            int m = month;
            Due.is("month " + m, lengths[m - 1], () -> x.monthLength(0, 1, m));
        }
        Due.is("text at first is empty", 1, () -> x.appendCharacter('m'));
    }

    private static void promise2() {
        CalendarConverter x = new CalendarConverter();
        Due.argument("append 32", () -> x.appendCharacter(32));
        Due.argument("append 127", () -> x.appendCharacter(127));
        Due.argument("append -1", () -> x.appendCharacter(-1));
        Due.argument("append 65536 + 33", () -> x.appendCharacter(65536 + 33));
        Due.is("append 33", 1, () -> x.appendCharacter(33));
        Due.is("append 126", 2, () -> x.appendCharacter(126));
        for (int length = 3; length <= 100; length++) {
            Due.is("append to " + length, length, () -> x.appendCharacter('m'));
        }
        Due.state("append to 101", () -> x.appendCharacter('m'));
        Due.argument("append 32 to a full text", () -> x.appendCharacter(32));
        Due.argument("a full text has a fault", () -> x.setCalendar(0));
        Due.is("the text is empty again", 1, () -> x.appendCharacter('m'));
    }

    private static void promise3() {
        CalendarConverter x = new CalendarConverter();
        write(x, "m30;e0");
        Due.index("set 2 of 1", () -> x.setCalendar(2));
        Due.is("the text is emptied", 1, () -> x.appendCharacter('m'));
        Due.index("set -1", () -> x.setCalendar(-1));
        Due.argument("set without a text", () -> x.setCalendar(0));
        Due.is("set 1", 2, () -> set(x, 1, "m30,1;e5"));
        Due.is("number of calendars", 2, x::calendarCount);
        Due.is("set 1 again", 4, () -> set(x, 1, MOONS));
        Due.is("number of calendars again", 2, x::calendarCount);
        Due.is("set 0", 1, () -> set(x, 0, "m60;e-500000;d1;w2,1,2"));
        Due.is("calendar 0 is another one", -500000, () -> x.calendar(0, 1));
        for (int number = 2; number <= 5; number++) {
            int n = number;
            Due.is("set " + n, 1, () -> set(x, n, "m30;e0"));
        }
        Due.index("set 6", () -> set(x, 6, "m30;e0"));
        Due.is("set 5 of 6", 1, () -> set(x, 5, "m31;e0"));
        Due.is("6 calendars", 6, x::calendarCount);
        Due.state("not possible", () -> set(x, 5, "m29;e0"));
        Due.is("the calendar stays", 31, () -> x.monthLength(5, 1, 1));
        Due.is("the text is emptied after all", 1, () -> x.appendCharacter('m'));
    }

    private static void promise3Possible() {
        String[] possible = {"m30;e0", "m60;e500000", "m1,29;e-500000", "m030;e-0", "m30;e000000", "m30;e0;d1", "m30;e0;i1,60",
            "m30;e0;i1,1;l400+", "m30;e0;l1-", "m30;e0;l8+125-", "m30;e0;c30:29", "m30;e0;c1:0", "m30;e0;c5:4,4,4",
            "m30;e0;w2,0,1", "m30;e0;w10,9,10", "m30;e0;d1;l4+;w7,6,7", "m30;e0;l1+1-1+1-",
            "m3,3,3,3,3,3,3,3,3,3,3,3,3,3;e0;d14"};
        for (String text : possible) {
            CalendarConverter x = new CalendarConverter();
            Due.is(text, text.split(";")[0].split(",").length, () -> set(x, 1, text));
            Due.is(text + " fault position", -1, x::faultPosition);
        }
        String[] impossible = {"m29;e0", "m61;e0", "m0,30;e0", "m30,0;e0", "m30,61;e0", "m10,10,9;e0", "m29;e0;d1;l1+",
            "m20;e0;i1,60;l1+", "m30;e500001", "m30;e-500001", "m30;e0;d0", "m30;e0;d2", "m30;e0;i0,5", "m30;e0;i2,5",
            "m30;e0;i1,0", "m30;e0;i1,61", "m30;e0;l0+", "m30;e0;l401+", "m30;e0;l4+0-", "m30;e0;l7+11-13+", "m30;e0;l250+7-",
            "m30;e0;l400+399+398+397+", "m30;e0;c0:0", "m30;e0;c31:0", "m30;e0;c5:5", "m30;e0;c30:0,30", "m30;e0;w1,0,1",
            "m30;e0;w11,0,1", "m30;e0;w7,7,1", "m30;e0;w7,0,0", "m30;e0;w7,0,8", "m30;e0;w0,0,0", "m999999;e0"};
        for (String text : impossible) {
            CalendarConverter x = new CalendarConverter();
            Due.argument("append 0", () -> set(x, 0, "m"));
            Due.state(text, () -> set(x, 1, text));
            Due.is(text + " fault position", -1, x::faultPosition);
            Due.is(text + " calendars", 1, x::calendarCount);
            Due.state(text + " is no change", x::undo);
        }
    }

    private static void fault(String text, int position) {
        CalendarConverter x = new CalendarConverter();
        Due.argument(text, () -> set(x, 1, text));
        Due.is(text + " fault position", position, x::faultPosition);
        Due.is(text + " by the oracle", position, () -> Oracle.faultOf(text));
    }

    private static void promise4() {
        fault("", 0);
        fault("x", 0);
        fault("m", 1);
        fault("m,", 1);
        fault("m;e0", 1);
        fault("m30,;e0", 4);
        fault("m30", 3);
        fault("m30,", 4);
        fault("m30,;", 4);
        fault("m1234567", 7);
        fault("m1,1,1,1,1,1,1,1,1,1,1,1,1,1,1;e0", 28);
        fault("m30;", 4);
        fault("m30;d", 4);
        fault("m30;e", 5);
        fault("m30;e-", 6);
        fault("m30;e--1", 6);
        fault("m30;e+1", 5);
        fault("m30;e-1234567", 12);
        fault("m30;e0,", 6);
        fault("m30;e0;", 7);
        fault("m30;e0;e", 7);
        fault("m30;e0;d", 8);
        fault("m30;e0;d1,", 9);
        fault("m30;e0;d1;i1,1", 10);
        fault("m30;e0;d1;d1", 10);
        fault("m30;e0;i1,1;d1", 12);
        fault("m30;e0;i1,1;i1,1", 12);
        fault("m30;e0;i", 8);
        fault("m30;e0;c", 8);
        fault("m30;e0;w", 8);
        fault("m30;e0;i1", 9);
        fault("m30;e0;i1;", 9);
        fault("m30;e0;i1,", 10);
        fault("m30;e0;i1,1,", 11);
        fault("m30;e0;l", 8);
        fault("m30;e0;l4", 9);
        fault("m30;e0;l4;", 9);
        fault("m30;e0;l4+,", 10);
        fault("m30;e0;l4++", 10);
        fault("m30;e0;l4+5", 11);
        fault("m30;e0;l1+2+3+4-5+", 16);
        fault("m30;e0;l1234567+", 14);
        fault("m30;e0;l4+;d1", 11);
        fault("m30;e0;l4+;c3:1", 11);
        fault("m30;e0;c3", 9);
        fault("m30;e0;c3,", 9);
        fault("m30;e0;c3:", 10);
        fault("m30;e0;c3:,", 10);
        fault("m30;e0;c3:1,", 12);
        fault("m30;e0;c3:1:", 11);
        fault("m30;e0;c3:1;l4+", 12);
        fault("m30;e0;w7", 9);
        fault("m30;e0;w7,0", 11);
        fault("m30;e0;w7,0,", 12);
        fault("m30;e0;w7,0,4,", 13);
        fault("m30;e0;w7,0,4;", 13);
        fault("m30;e0;w7,0,4;d1", 13);
        fault("m0;e0;d9;l0+x", 12);
        CalendarConverter x = new CalendarConverter();
        Due.argument("a fault", () -> set(x, 1, "m30;x"));
        Due.index("a wrong number", () -> set(x, 7, "x"));
        Due.is("the fault position stays", 4, x::faultPosition);
        Due.is("a good text", 1, () -> set(x, 1, "m30;e0"));
        Due.is("no fault", -1, x::faultPosition);
        Due.argument("a fault again", () -> set(x, 1, "m30;ex"));
        Due.state("not possible", () -> set(x, 1, "m1;e0"));
        Due.is("no fault again", -1, x::faultPosition);
        Due.argument("the last fault", () -> set(x, 1, "m30;e"));
        Due.is("undo", 0, x::undo);
        Due.is("the fault position is not taken back", 5, x::faultPosition);
    }

    private static void describes(CalendarConverter x, int calendar, int... due) {
        for (int part = 0; part < due.length; part++) {
            int p = part;
            Due.is("calendar " + calendar + " part " + p, due[p], () -> x.calendar(calendar, p));
        }
    }

    private static void promise5and6() {
        CalendarConverter x = with(MOONS, "m30;e-7;l4+6-10+;w10,9,8", "m30,1;e0;d2", "m30;e1;i1,3;l1+1+");
        Due.is("number of calendars", 5, x::calendarCount);
        describes(x, 1, 4, -100, 2, 2, 7, 0, 4, 3);
        describes(x, 2, 1, -7, 0, 1, 10, 9, 8, 60);
        describes(x, 3, 2, 0, 1, 0, 7, 0, 4, 1);
        describes(x, 4, 1, 1, 2, 1, 7, 0, 4, 1);
        Due.is("undo", 3, x::undo);
        Due.is("number of calendars after undo", 4, x::calendarCount);
        Due.index("calendar 4 is gone", () -> x.calendar(4, 0));
        Due.index("calendar -1", () -> x.calendar(-1, 9));
        Due.argument("part -1", () -> x.calendar(0, -1));
        Due.argument("part 8", () -> x.calendar(0, 8));
    }

    private static void promise7() {
        CalendarConverter x = with("m30;e0;l4+100-400+2-", "m30;e0;c19:0,18", "m30;e0;i1,5");
        int[] leap = {-2000, -400, -4, 0, 4, 1996, 2000};
        int[] common = {-1900, -100, -1, 1, 2, 100, 1900, 1999};
        for (int year : leap) {
            Due.is("leap year " + year, true, () -> x.isLeapYear(0, year));
        }
        for (int year : common) {
            Due.is("leap year " + year, false, () -> x.isLeapYear(0, year));
        }
        Due.is("the last number counts, not the greatest", false, () -> x.isLeapYear(1, 400));
        Due.is("cycle -1", true, () -> x.isLeapYear(2, -1));
        Due.is("cycle -19", true, () -> x.isLeapYear(2, -19));
        Due.is("cycle -18", false, () -> x.isLeapYear(2, -18));
        Due.is("cycle 18", true, () -> x.isLeapYear(2, 18));
        Due.is("without a rule", false, () -> x.isLeapYear(3, 0));
        set(x, 3, "m30;e0;c19:1");
        Due.is("remainder 1 of the later cycle", true, () -> x.isLeapYear(3, 1));
        Due.is("remainder 0 of the earlier cycle", false, () -> x.isLeapYear(3, 0));
        set(x, 3, "m30;e0;l6+");
        Due.is("divisors after a cycle", false, () -> x.isLeapYear(3, 1));
        Due.is("divisors after other ones", false, () -> x.isLeapYear(3, 400));
        Due.index("calendar 4", () -> x.isLeapYear(4, 9999));
        Due.index("calendar -1", () -> x.isLeapYear(-1, 0));
        Due.argument("year -2001", () -> x.isLeapYear(0, -2001));
        Due.argument("year 2001", () -> x.isLeapYear(0, 2001));
    }

    private static void promise8to10() {
        CalendarConverter x = with(MOONS, "m10,20;e0;d1;c2:1", "m30;e0;i1,5");
        Due.is("months of a leap year", 5, () -> x.months(1, 1));
        Due.is("months of a common year", 4, () -> x.months(1, 2));
        Due.is("months with a leap day", 2, () -> x.months(2, 1));
        Due.is("months without a rule", 1, () -> x.months(3, 1));
        Due.index("months of no calendar", () -> x.months(4, 1));
        Due.argument("months of 2001", () -> x.months(0, 2001));
        Due.argument("months of -2001", () -> x.months(0, -2001));
        Due.is("a leap day's month", 11, () -> x.monthLength(2, 1, 1));
        Due.is("its month in a common year", 10, () -> x.monthLength(2, 2, 1));
        Due.is("another month", 20, () -> x.monthLength(2, 1, 2));
        Due.is("the intercalary month", 29, () -> x.monthLength(1, 1, 5));
        Due.is("the month before", 30, () -> x.monthLength(1, 1, 4));
        CalendarConverter y = with("m10,20;e0;i1,7;c2:1");
        Due.is("intercalary in the middle", 7, () -> y.monthLength(1, 1, 2));
        Due.is("the later month", 20, () -> y.monthLength(1, 1, 3));
        Due.is("is intercalary", true, () -> y.isIntercalary(1, 1, 2));
        Due.is("is not: before", false, () -> y.isIntercalary(1, 1, 1));
        Due.is("is not: after", false, () -> y.isIntercalary(1, 1, 3));
        Due.is("is not: a common year", false, () -> y.isIntercalary(1, 2, 2));
        Due.is("is not: a leap day", false, () -> x.isIntercalary(2, 1, 2));
        Due.argument("no third month", () -> y.monthLength(1, 2, 3));
        Due.argument("no fourth month", () -> y.monthLength(1, 1, 4));
        Due.argument("no month 0", () -> y.monthLength(1, 1, 0));
        Due.argument("no year", () -> y.monthLength(1, 2001, 1));
        Due.index("no calendar", () -> y.monthLength(2, 2001, 1));
        Due.argument("intercalary: no third month", () -> y.isIntercalary(1, 2, 3));
        Due.argument("intercalary: no month 0", () -> y.isIntercalary(1, 1, 0));
        Due.argument("intercalary: no year", () -> y.isIntercalary(1, -2001, 1));
        Due.index("intercalary: no calendar", () -> y.isIntercalary(-1, 0, 0));
    }

    private static void promise11and12() {
        CalendarConverter x = with(MOONS, "m60,60,60,60,60,60,60,60,60,60,60,60,60,60;e500000;i14,60;l1+");
        Due.is("length of a leap year", 366, () -> x.yearLength(0, 0));
        Due.is("length of a common year", 365, () -> x.yearLength(0, 1));
        Due.is("length with an intercalary month", 147, () -> x.yearLength(1, 1));
        Due.is("length without", 118, () -> x.yearLength(1, 2));
        Due.argument("length of 2001", () -> x.yearLength(0, 2001));
        Due.argument("length of -2001", () -> x.yearLength(0, -2001));
        Due.index("length of no calendar", () -> x.yearLength(3, 2001));
        Due.is("first day of 1", 0, () -> x.firstDay(0, 1));
        Due.is("first day of 0", -366, () -> x.firstDay(0, 0));
        Due.is("first day of 2000", 730119, () -> x.firstDay(0, 2000));
        Due.is("first day of -2000", -730851, () -> x.firstDay(0, -2000));
        Due.is("first day of 1 by its text", -100, () -> x.firstDay(1, 1));
        Due.is("first day far away", 500000 + 1999 * 900, () -> x.firstDay(2, 2000));
        Due.is("first day far before", 500000 - 2001 * 900, () -> x.firstDay(2, -2000));
        Due.argument("first day of 2001", () -> x.firstDay(0, 2001));
        Due.argument("first day of -2001", () -> x.firstDay(0, -2001));
        Due.index("first day of no calendar", () -> x.firstDay(-1, 1));
    }

    private static void promise13() {
        CalendarConverter x = with(MOONS, LATE, EARLY);
        Due.is("29 February 2000", 730178, () -> x.dayOf(0, 2000, 2, 29));
        Due.is("31 December -2000", -730851 + 365, () -> x.dayOf(0, -2000, 12, 31));
        Due.argument("29 February 1900", () -> x.dayOf(0, 1900, 2, 29));
        Due.argument("30 February 2000", () -> x.dayOf(0, 2000, 2, 30));
        Due.argument("day 0", () -> x.dayOf(0, 2000, 2, 0));
        Due.argument("month 13", () -> x.dayOf(0, 2000, 13, 1));
        Due.argument("month 0", () -> x.dayOf(0, 2000, 0, 1));
        Due.argument("year 2001", () -> x.dayOf(0, 2001, 1, 1));
        Due.argument("year -2001", () -> x.dayOf(0, -2001, 1, 1));
        Due.argument("least ints", () -> x.dayOf(0, 1, Integer.MIN_VALUE, Integer.MIN_VALUE));
        Due.argument("greatest ints", () -> x.dayOf(0, 1, Integer.MAX_VALUE, Integer.MAX_VALUE));
        Due.index("no calendar", () -> x.dayOf(4, 2001, 1, 1));
        Due.is("in the intercalary month", -100 + 118 + 2, () -> x.dayOf(1, 1, 5, 3));
        Due.argument("no intercalary month", () -> x.dayOf(1, 2, 5, 3));
        Due.is("day 999999", 999999, () -> x.dayOf(2, 1993, 1, 8));
        CalendarConverter y = with("m5,5,5,5,5,5,5,5,5,5,5,5,5,5;e0;i1,9;l2+");
        Due.is("in the fifteenth month", 70 + 5 + 9 + 12 * 5 + 1, () -> y.dayOf(1, 2, 15, 2));
        Due.argument("no fifteenth month", () -> y.dayOf(1, 1, 15, 2));
        dated(y, 1, 70 + 5 + 9 + 12 * 5 + 1, 2, 15, 2, 76, 5);
        Due.argument("day 1000000", () -> x.dayOf(2, 1993, 1, 9));
        Due.is("day -999999", -999999, () -> x.dayOf(3, -1992, 5, 5));
        Due.argument("day -1000000", () -> x.dayOf(3, -1992, 5, 4));
    }

    private static void dated(CalendarConverter x, int calendar, int day, int... due) {
        for (int part = 0; part < due.length; part++) {
            int p = part;
            Due.is("date " + calendar + " " + day + " " + p, due[p], () -> x.date(calendar, day, p));
        }
    }

    private static void promise14() {
        CalendarConverter x = with(MOONS, "m30;e0;w10,9,1");
        dated(x, 0, 0, 1, 1, 1, 1, 0);
        dated(x, 0, -1, 0, 12, 31, 366, 6);
        dated(x, 0, 730178, 2000, 2, 29, 60, 1);
        dated(x, 0, 730484, 2000, 12, 31, 366, 6);
        dated(x, 0, -730851, -2000, 1, 1, 1, 5);
        dated(x, 1, 18, 1, 5, 1, 119, 4);
        dated(x, 1, 46, 1, 5, 29, 147, 4);
        dated(x, 1, 47, 2, 1, 1, 1, 5);
        dated(x, 2, -1, 0, 1, 30, 30, 8);
        for (int part = 0; part < 5; part++) {
            int p = part;
            Due.element("after the calendar, part " + p, () -> x.date(0, 730485, p));
            Due.element("before the calendar, part " + p, () -> x.date(0, -730852, p));
        }
        Due.index("no calendar", () -> x.date(3, 1000000, 9));
        Due.argument("day 1000000", () -> x.date(0, 1000000, 0));
        Due.argument("day -1000000", () -> x.date(0, -1000000, 0));
        Due.element("day 999999", () -> x.date(0, 999999, 0));
        Due.argument("part 5 outside", () -> x.date(0, 999999, 5));
        Due.argument("part -1", () -> x.date(0, 0, -1));
        CalendarConverter y = with(LATE, EARLY);
        dated(y, 1, 999999, 1993, 1, 8, 8, 0);
        dated(y, 2, -999999, -1992, 5, 5, 245, 0);
    }

    private static void promise15() {
        CalendarConverter x = with(MOONS, JULIAN, "m30;e0");
        Due.is("day in calendar 0", 21, () -> x.convert(1, 1, 5, 3, 0, 2));
        Due.is("year in calendar 1", 1, () -> x.convert(0, 1, 1, 21, 1, 0));
        Due.is("month in calendar 1", 5, () -> x.convert(0, 1, 1, 21, 1, 1));
        Due.is("day in calendar 1", 3, () -> x.convert(0, 1, 1, 21, 1, 2));
        Due.is("day of the year", 121, () -> x.convert(0, 1, 1, 21, 1, 3));
        Due.is("weekday", 6, () -> x.convert(0, 1, 1, 21, 1, 4));
        Due.is("Julian year", 1999, () -> x.convert(0, 2000, 1, 1, 2, 0));
        Due.is("Julian month", 12, () -> x.convert(0, 2000, 1, 1, 2, 1));
        Due.is("Julian day", 19, () -> x.convert(0, 2000, 1, 1, 2, 2));
        Due.is("to itself", 29, () -> x.convert(0, 2000, 2, 29, 0, 2));
        Due.index("no first calendar", () -> x.convert(4, 1, 1, 99, 0, 2));
        Due.index("no other calendar", () -> x.convert(0, 1, 1, 99, 4, 2));
        Due.index("other calendar -1", () -> x.convert(0, 1, 1, 99, -1, 2));
        Due.argument("no such date", () -> x.convert(0, 1, 2, 29, 1, 2));
        Due.argument("no such year", () -> x.convert(0, 2001, 1, 1, 1, 2));
        Due.argument("part 5", () -> x.convert(0, 2000, 1, 1, 3, 5));
        Due.argument("part -1", () -> x.convert(0, 1, 1, 1, 1, -1));
        Due.element("outside the other calendar", () -> x.convert(0, 2000, 1, 1, 3, 0));
        Due.element("before the other calendar", () -> x.convert(0, -2000, 1, 1, 3, 4));
        CalendarConverter y = with(LATE);
        Due.argument("day 1000000", () -> y.convert(1, 1993, 1, 9, 0, 0));
        Due.element("day 999999", () -> y.convert(1, 1993, 1, 8, 0, 0));
    }

    private static void weekOf(CalendarConverter x, int calendar, int day, int year, int week) {
        Due.is("week year of " + day, year, () -> x.week(calendar, day, 0));
        Due.is("week of " + day, week, () -> x.week(calendar, day, 1));
    }

    private static void promise16to18() {
        CalendarConverter x = with("m30;e0;w10,9,10", "m30;e0;w10,9,1", "m30;e0;w7,3,7");
        weekOf(x, 0, 729753, 1998, 53);
        weekOf(x, 0, 729756, 1998, 53);
        weekOf(x, 0, 729757, 1999, 1);
        weekOf(x, 0, 730119, 1999, 52);
        weekOf(x, 0, 730121, 2000, 1);
        weekOf(x, 0, 364, 2, 1);
        weekOf(x, 0, 730484, 2000, 52);
        weekOf(x, 0, -730851, -2001, 52);
        weekOf(x, 1, 0, 0, 3);
        weekOf(x, 1, 1, 1, 1);
        weekOf(x, 2, 29, 2, 1);
        weekOf(x, 2, 50, 2, 3);
        weekOf(x, 2, 51, 3, 1);
        weekOf(x, 2, 30 * 2000 - 9, 2001, 1);
        Due.index("week of no calendar", () -> x.week(4, 1000000, 2));
        Due.argument("week of 1000000", () -> x.week(0, 1000000, 0));
        Due.argument("week of -1000000", () -> x.week(0, -1000000, 0));
        Due.argument("week part 2", () -> x.week(0, 999999, 2));
        Due.argument("week part -1", () -> x.week(0, 0, -1));
        Due.element("week outside", () -> x.week(0, 730485, 0));
        Due.element("week before", () -> x.week(0, -730852, 1));
        Due.is("weeks of 1998", 53, () -> x.weeks(0, 1998));
        Due.is("weeks of 1999", 52, () -> x.weeks(0, 1999));
        Due.is("weeks of 4", 53, () -> x.weeks(0, 4));
        Due.is("weeks of 2000", 52, () -> x.weeks(0, 2000));
        Due.is("weeks of -2000", 52, () -> x.weeks(0, -2000));
        Due.is("weeks of ten days", 3, () -> x.weeks(1, 1));
        Due.is("weeks of thirty days", 4, () -> x.weeks(3, 1));
        Due.is("weeks of other thirty days", 5, () -> x.weeks(3, 3));
        Due.index("weeks of no calendar", () -> x.weeks(-1, 2001));
        Due.argument("weeks of 2001", () -> x.weeks(0, 2001));
        Due.argument("weeks of -2001", () -> x.weeks(0, -2001));
        Due.is("first day of week 1 of 2000", 730121, () -> x.firstDayOfWeek(0, 2000, 1));
        Due.is("first day of week 52 of 2000", 730121 + 51 * 7, () -> x.firstDayOfWeek(0, 2000, 52));
        Due.is("first day of week 53 of 1998", 729750, () -> x.firstDayOfWeek(0, 1998, 53));
        Due.is("first day of week 1 of 1", 1, () -> x.firstDayOfWeek(1, 1, 1));
        Due.is("first day in the year before", -9, () -> x.firstDayOfWeek(2, 1, 1));
        Due.argument("week 53 of 2000", () -> x.firstDayOfWeek(0, 2000, 53));
        Due.argument("week 0", () -> x.firstDayOfWeek(0, 2000, 0));
        Due.argument("week 1 of 2001", () -> x.firstDayOfWeek(0, 2001, 1));
        Due.argument("week 1 of -2001", () -> x.firstDayOfWeek(0, -2001, 1));
        Due.index("week of no calendar", () -> x.firstDayOfWeek(4, 2001, 0));
    }

    private static void promise19() {
        CalendarConverter x = with(MOONS, LATE);
        int january31 = 730149;
        Due.is("January 31 and 0", january31, () -> x.plus(0, january31, 0));
        Due.is("January 31 and 1", 730178, () -> x.plus(0, january31, 1));
        Due.is("January 31 and 2", 730209, () -> x.plus(0, january31, 2));
        Due.is("January 31 and -1", 730118, () -> x.plus(0, january31, -1));
        Due.is("January 31 and -11", 729812, () -> x.plus(0, january31, -11));
        Due.is("into the intercalary month", 18, () -> x.plus(1, -12, 1));
        Due.is("the last day of the intercalary month", 46, () -> x.plus(1, 17, 1));
        Due.is("out of the intercalary month", 47, () -> x.plus(1, 18, 1));
        Due.is("5 months are a leap year", 47, () -> x.plus(1, -100, 5));
        Due.is("back over the year 1", -100, () -> x.plus(1, 47, -5));
        Due.is("into the last month", 730484, () -> x.plus(0, 730484, 0));
        Due.is("in the first month", -730851, () -> x.plus(0, -730851, 0));
        Due.is("into the first month", -730851, () -> x.plus(0, -730851 + 31, -1));
        Due.element("after the calendar", () -> x.plus(0, 730484, 1));
        Due.element("before the calendar", () -> x.plus(0, -730851, -1));
        Due.is("9999 months", x.dayOf(0, 834, 4, 1), () -> x.plus(0, 0, 9999));
        Due.is("-9999 months", x.dayOf(0, -833, 10, 1), () -> x.plus(0, 0, -9999));
        Due.index("no calendar", () -> x.plus(3, 1000000, 10000));
        Due.argument("10000 months", () -> x.plus(0, 0, 10000));
        Due.argument("-10000 months", () -> x.plus(0, 0, -10000));
        Due.argument("day 1000000", () -> x.plus(0, 1000000, 0));
        Due.argument("day -1000000", () -> x.plus(0, -1000000, 0));
        Due.element("a day outside", () -> x.plus(0, 999999, -9999));
        Due.argument("a day outside and 10000", () -> x.plus(0, 999999, 10000));
        Due.is("up to 999999", 999999, () -> x.plus(2, 999988, 1));
        Due.element("to 1000000", () -> x.plus(2, 999989, 1));
    }

    private static void promise20() {
        CalendarConverter x = with(MOONS, LATE);
        Due.is("29 February and 1", x.dayOf(0, 5, 2, 28), () -> x.plusYears(0, x.dayOf(0, 4, 2, 29), 1));
        Due.is("29 February and 4", x.dayOf(0, 8, 2, 29), () -> x.plusYears(0, x.dayOf(0, 4, 2, 29), 4));
        Due.is("29 February and -4", x.dayOf(0, 0, 2, 29), () -> x.plusYears(0, x.dayOf(0, 4, 2, 29), -4));
        Due.is("and 0", 77, () -> x.plusYears(0, 77, 0));
        Due.is("without this month", x.dayOf(1, 2, 4, 29), () -> x.plusYears(1, x.dayOf(1, 1, 5, 29), 1));
        Due.is("the month with this number", x.dayOf(1, 4, 5, 29), () -> x.plusYears(1, x.dayOf(1, 1, 5, 29), 3));
        Due.is("the year before", x.dayOf(1, 1, 4, 30), () -> x.plusYears(1, x.dayOf(1, 2, 4, 30), -1));
        Due.is("4000 years", x.dayOf(0, 2000, 3, 1), () -> x.plusYears(0, x.dayOf(0, -2000, 3, 1), 4000));
        Due.is("-4000 years", x.dayOf(0, -2000, 3, 1), () -> x.plusYears(0, x.dayOf(0, 2000, 3, 1), -4000));
        Due.element("year 2001", () -> x.plusYears(0, 730484, 1));
        Due.element("year -2001", () -> x.plusYears(0, -730851, -1));
        Due.index("no calendar", () -> x.plusYears(-1, 1000000, 4001));
        Due.argument("4001 years", () -> x.plusYears(0, 0, 4001));
        Due.argument("-4001 years", () -> x.plusYears(0, 0, -4001));
        Due.argument("day 1000000", () -> x.plusYears(0, 1000000, 0));
        Due.argument("day -1000000", () -> x.plusYears(0, -1000000, 0));
        Due.element("a day outside", () -> x.plusYears(0, 999999, -4000));
        Due.argument("a day outside and 4001", () -> x.plusYears(0, 999999, 4001));
        Due.is("up to 999999", 999999, () -> x.plusYears(2, 999999 - 251, 1));
        Due.element("to 1000000", () -> x.plusYears(2, 1000000 - 251, 1));
        CalendarConverter y = with("m10,20;e0;i1,7;c2:1");
        Due.is("month 2 is intercalary", y.dayOf(1, 3, 2, 7), () -> y.plusYears(1, y.dayOf(1, 2, 2, 20), 1));
        Due.is("month 3 is the last one", y.dayOf(1, 2, 2, 4), () -> y.plusYears(1, y.dayOf(1, 1, 3, 4), 1));
    }

    private static void spans(CalendarConverter x, int calendar, int from, int to, int... due) {
        for (int part = 0; part < 3; part++) {
            int p = part;
            Due.is("span " + from + " " + to + " " + p, due[p], () -> x.span(calendar, from, to, p));
        }
    }

    private static void promise21() {
        CalendarConverter x = with(MOONS, LATE);
        spans(x, 0, 30, 500, 1, 3, 16);
        spans(x, 0, 5, 5, 0, 0, 0);
        spans(x, 0, x.dayOf(0, 1996, 2, 29), x.dayOf(0, 1999, 2, 28), 3, 0, 0);
        spans(x, 0, x.dayOf(0, 1996, 2, 29), x.dayOf(0, 1999, 3, 28), 3, 1, 0);
        spans(x, 0, x.dayOf(0, 1996, 2, 29), x.dayOf(0, 1999, 3, 27), 3, 0, 27);
        spans(x, 0, x.dayOf(0, 1999, 1, 31), x.dayOf(0, 1999, 2, 28), 0, 1, 0);
        spans(x, 0, x.dayOf(0, 1999, 1, 31), x.dayOf(0, 1999, 3, 30), 0, 1, 30);
        spans(x, 0, x.dayOf(0, 1999, 12, 31), x.dayOf(0, 2000, 12, 30), 0, 11, 30);
        spans(x, 0, -730851, 730484, 4000, 11, 30);
        spans(x, 0, x.dayOf(0, -1, 6, 15), x.dayOf(0, 1, 6, 14), 1, 11, 30);
        spans(x, 1, -100, 46, 0, 4, 28);
        spans(x, 1, -100, 47, 1, 0, 0);
        spans(x, 1, 46, x.dayOf(1, 3, 1, 1), 1, 0, 2);
        spans(x, 2, 999990, 999999, 0, 0, 9);
        Due.index("no calendar", () -> x.span(3, 1, 0, 3));
        Due.argument("to before from", () -> x.span(0, 30, 29, 0));
        Due.argument("to 1000000", () -> x.span(0, 0, 1000000, 0));
        Due.argument("from -1000000", () -> x.span(0, -1000000, 0, 0));
        Due.argument("part 3", () -> x.span(0, 0, 999999, 3));
        Due.argument("part -1", () -> x.span(0, 0, 1, -1));
        Due.element("to outside", () -> x.span(0, 0, 730485, 0));
        Due.element("from outside", () -> x.span(0, -730852, 0, 0));
    }

    private static void badFeast(CalendarConverter x, int rule, int rank, int which, int a, int b, int c) {
        Due.argument("feast " + rule + " " + rank + " " + which + " " + a + " " + b + " " + c,
            () -> x.addFeast(rule, rank, which, a, b, c));
    }

    private static void promise22() {
        CalendarConverter x = with(MOONS);
        badFeast(x, 2, 0, 0, 0, 0, 0);
        badFeast(x, 3, 0, 0, 0, 0, 0);
        badFeast(x, 4, 0, 0, 0, 1, 0);
        Due.is("date", 0, () -> x.addFeast(0, 0, 0, 1, 1, 0));
        Due.is("date at the other end", 1, () -> x.addFeast(0, 9, 1, 15, 60, 0));
        Due.is("weekday", 2, () -> x.addFeast(1, 0, 0, 1, -1, 0));
        Due.is("weekday at the other end", 3, () -> x.addFeast(1, 9, 1, 15, 5, 9));
        Due.is("days after", 4, () -> x.addFeast(2, 0, 3, -400, 0, 0));
        Due.is("next weekday", 5, () -> x.addFeast(3, 0, 4, 1, 9, 0));
        Due.is("next number", 6, () -> x.addFeast(4, 0, 0, 0, 60, 0));
        int[][] wrong = {{-1, 0, 0, 1, 1, 0}, {5, 0, 0, 1, 1, 0}, {0, -1, 0, 1, 1, 0}, {0, 10, 0, 1, 1, 0},
            {0, 0, -1, 1, 1, 0}, {0, 0, 2, 1, 1, 0}, {0, 0, 0, 0, 1, 0}, {0, 0, 0, 16, 1, 0}, {0, 0, 0, 1, 0, 0},
            {0, 0, 0, 1, 61, 0}, {0, 0, 0, 1, 1, 1}, {0, 0, 0, 1, 1, -1},
            {1, 0, 2, 1, 1, 0}, {1, 0, 0, 0, 1, 0}, {1, 0, 0, 16, 1, 0}, {1, 0, 0, 1, 0, 0}, {1, 0, 0, 1, -2, 0},
            {1, 0, 0, 1, 6, 0}, {1, 0, 0, 1, 1, -1}, {1, 0, 0, 1, 1, 10},
            {2, 0, 7, 0, 0, 0}, {2, 0, -1, 0, 0, 0}, {2, 0, 0, -401, 0, 0}, {2, 0, 0, 401, 0, 0}, {2, 0, 0, 0, 1, 0},
            {2, 0, 0, 0, 0, 1}, {3, 0, 7, 0, 0, 0}, {3, 0, 0, 2, 0, 0}, {3, 0, 0, -1, 0, 0}, {3, 0, 0, 0, -1, 0},
            {3, 0, 0, 0, 10, 0}, {3, 0, 0, 0, 0, 1}, {4, 0, 7, 0, 1, 0}, {4, 0, 0, 2, 1, 0}, {4, 0, 0, -1, 1, 0},
            {4, 0, 0, 0, 0, 0}, {4, 0, 0, 0, 61, 0}, {4, 0, 0, 0, 1, 1}};
        for (int[] w : wrong) {
            badFeast(x, w[0], w[1], w[2], w[3], w[4], w[5]);
        }
        Due.is("400 days after", 7, () -> x.addFeast(2, 9, 6, 400, 0, 0));
        Due.state("a ninth feast", () -> x.addFeast(2, 9, 7, 400, 0, 0));
        badFeast(x, 2, 9, 8, 400, 0, 0);
        Due.is("8 feasts", 8, x::feastCount);
    }

    private static void promise23and24() {
        CalendarConverter x = new CalendarConverter();
        Due.state("no feasts", x::removeFeast);
        Due.state("that was no change", x::undo);
        x.addFeast(0, 0, 0, 1, 1, 0);
        x.addFeast(0, 0, 0, 1, 2, 0);
        Due.is("2 feasts", 2, x::feastCount);
        Due.is("remove one", 1, x::removeFeast);
        Due.is("1 feast", 1, x::feastCount);
        Due.is("the first one remains", 0, () -> x.feast(0, 1));
        Due.is("remove the other", 0, x::removeFeast);
        Due.state("no feasts again", x::removeFeast);
        Due.is("0 feasts", 0, x::feastCount);
    }

    private static void promise25() {
        CalendarConverter x = with(MOONS, "m3,40;e0;w7,0,4");
        x.addFeast(0, 0, 0, 15, 60, 0);
        x.addFeast(0, 0, 1, 5, 30, 0);
        x.addFeast(1, 0, 0, 11, 4, 3);
        x.addFeast(1, 0, 0, 5, -1, 0);
        x.addFeast(1, 0, 0, 2, 5, 1);
        x.addFeast(1, 0, 0, 15, 1, 7);
        x.addFeast(2, 0, 4, 1, 0, 0);
        x.addFeast(2, 0, 2, -400, 0, 0);
        Due.is("the last day of the last month", 730484, () -> x.feast(0, 2000));
        Due.is("the last day of an intercalary month", x.dayOf(1, 1, 5, 29), () -> x.feast(1, 1));
        Due.is("the last month without it", x.dayOf(1, 2, 4, 30), () -> x.feast(1, 2));
        Due.is("the fourth Thursday", x.dayOf(0, 1999, 11, 25), () -> x.feast(2, 1999));
        Due.is("the last Monday", x.dayOf(0, 1999, 5, 31), () -> x.feast(3, 1999));
        Due.is("the fifth Tuesday of February", 730178, () -> x.feast(4, 2000));
        Due.element("no fifth Tuesday", () -> x.feast(4, 1999));
        Due.element("no weekday 7", () -> x.feast(5, 1999));
        Due.is("a day after", 730179, () -> x.feast(6, 2000));
        Due.element("a day after none", () -> x.feast(6, 1999));
        Due.is("400 days before", x.dayOf(0, 1999, 11, 25) - 400, () -> x.feast(7, 1999));
        Due.is("the day before all years", x.dayOf(0, -2000, 11, 23) - 400, () -> x.feast(7, -2000));
        Due.index("feast 8", () -> x.feast(8, 2001));
        Due.index("feast -1", () -> x.feast(-1, 2001));
        Due.argument("year 2001", () -> x.feast(0, 2001));
        Due.argument("year -2001", () -> x.feast(4, -2001));
        set(x, 0, "m30;e7");
        Due.is("the feast follows the new calendar", 36, () -> x.feast(0, 1));
        Due.is("undo", 5, x::undo);
        Due.is("and the old one again", 364, () -> x.feast(0, 1));

        CalendarConverter y = with("m3,40;e0", LATE, "m30;e0;w10,0,1");
        y.addFeast(1, 0, 1, 1, 1, 2);
        y.addFeast(1, 0, 1, 1, 1, 3);
        y.addFeast(1, 0, 1, 1, -1, 0);
        y.addFeast(1, 0, 1, 1, -1, 6);
        y.addFeast(0, 0, 2, 1, 8, 0);
        y.addFeast(2, 0, 4, 1, 0, 0);
        y.addFeast(2, 0, 5, -1, 0, 0);
        y.addFeast(1, 0, 3, 9, 2, 9);
        Due.is("on the last day of a short month", 2, () -> y.feast(0, 1));
        Due.element("not in a short month", () -> y.feast(1, 1));
        Due.is("the last one is its first day", 0, () -> y.feast(2, 1));
        Due.element("no last one in a short month", () -> y.feast(3, 1));
        Due.is("day 999999", 999999, () -> y.feast(4, 1993));
        Due.element("day after 999999", () -> y.feast(4, 1994));
        Due.element("one more than 999999", () -> y.feast(5, 1993));
        Due.element("after none", () -> y.feast(6, 1993));
        Due.is("a weekday of ten", 19, () -> y.feast(7, 1));
    }

    private static void promise25RulesThreeAndFour() {
        CalendarConverter x = with("m30;e0;w10,0,1", "m10,20,40;e0;i1,5;l2+", "m20,20;e-100000");
        x.addFeast(0, 0, 0, 12, 25, 0);
        x.addFeast(3, 0, 0, 0, 6, 0);
        x.addFeast(3, 0, 0, 0, 7, 0);
        x.addFeast(4, 0, 0, 0, 25, 0);
        x.addFeast(4, 0, 0, 0, 24, 0);
        x.addFeast(4, 0, 0, 0, 31, 0);
        x.addFeast(4, 0, 0, 0, 32, 0);
        x.addFeast(2, 0, 0, 60, 0, 0);
        Due.is("Sunday from Christmas on", x.dayOf(0, 1999, 12, 26), () -> x.feast(1, 1999));
        Due.is("Sunday on Christmas", x.dayOf(0, 1994, 12, 25), () -> x.feast(1, 1994));
        Due.is("Sunday in the last year", x.dayOf(0, 2000, 12, 31), () -> x.feast(1, 2000));
        Due.element("no weekday 7", () -> x.feast(2, 1999));
        Due.is("the day itself", x.dayOf(0, 1999, 12, 25), () -> x.feast(3, 1999));
        Due.is("a day in the next month", x.dayOf(0, 2000, 1, 24), () -> x.feast(4, 1999));
        Due.element("a day in the year 2001", () -> x.feast(4, 2000));
        Due.is("day 31", x.dayOf(0, 2000, 12, 31), () -> x.feast(5, 2000));
        Due.element("no day 32", () -> x.feast(6, 1));
        Due.is("a day outside", 730478 + 60, () -> x.feast(7, 2000));
        x.removeFeast();
        x.removeFeast();
        x.addFeast(2, 0, 0, 7, 0, 0);
        x.addFeast(3, 0, 6, 0, 0, 0);
        Due.element("from a day outside", () -> x.feast(7, 2000));
        Due.is("from a day inside", x.dayOf(0, 2000, 1, 3), () -> x.feast(7, 1999));

        CalendarConverter y = new CalendarConverter();
        y.addFeast(0, 0, 0, 12, 31, 0);
        y.addFeast(3, 0, 0, 0, 0, 0);
        y.addFeast(0, 0, 0, 1, 1, 0);
        y.addFeast(2, 0, 2, -1, 0, 0);
        y.addFeast(3, 0, 3, 0, 5, 0);
        y.addFeast(4, 0, 3, 0, 1, 0);
        y.addFeast(3, 0, 2, 0, 5, 0);
        y.addFeast(4, 0, 2, 0, 1, 0);
        Due.element("found outside", () -> y.feast(1, 2000));
        Due.is("found inside", x.dayOf(0, 2000, 1, 3), () -> y.feast(1, 1999));
        Due.element("a weekday looked for from before", () -> y.feast(4, -2000));
        Due.element("a number looked for from before", () -> y.feast(5, -2000));
        Due.is("a weekday from the first day on", -730851, () -> y.feast(6, -2000));
        Due.is("a number from the first day on", -730851, () -> y.feast(7, -2000));
        Due.is("a number from the last day of the year before", 0, () -> y.feast(5, 1));

        CalendarConverter z = with("m29,29,29,29,29,29,29,29,29,29,29,29,29,30;e0", LATE, "m10,30;e0;i1,40;l2+");
        z.addFeast(0, 0, 1, 1, 8, 0);
        z.addFeast(4, 0, 0, 1, 30, 0);
        z.addFeast(0, 0, 1, 1, 7, 0);
        z.addFeast(4, 0, 2, 1, 30, 0);
        z.addFeast(4, 0, 0, 3, 40, 0);
        z.addFeast(0, 0, 2, 1, 8, 0);
        z.addFeast(3, 0, 5, 2, 0, 0);
        z.addFeast(4, 0, 5, 2, 9, 0);
        Due.is("399 days after", 406, () -> z.feast(1, 1));
        Due.element("400 days after", () -> z.feast(3, 1));
        Due.is("in an intercalary month", 89, () -> z.feast(4, 1));
        Due.is("on day 999999", 999999, () -> z.feast(6, 1993));
        Due.element("on day 1000000", () -> z.feast(7, 1993));
    }

    private static void promise26and27() {
        CalendarConverter x = new CalendarConverter();
        x.addFeast(0, 3, 0, 12, 25, 0);
        x.addFeast(0, 5, 0, 12, 25, 0);
        x.addFeast(0, 3, 0, 12, 25, 0);
        x.addFeast(0, 9, 0, 12, 26, 0);
        x.addFeast(0, 0, 0, 12, 26, 0);
        x.addFeast(1, 9, 0, 2, 5, 1);
        x.addFeast(2, 0, 2, 0, 0, 0);
        int christmas = x.dayOf(0, 1999, 12, 25);
        int[] due = {christmas + 2, christmas, christmas + 3, christmas + 1, christmas + 4, 0, christmas + 5};
        for (int feast = 0; feast < due.length; feast++) {
            int f = feast;
            if (f != 5) {
                Due.is("place of " + f, due[f], () -> x.placedFeast(f, 1999));
                Due.is("feast on the place of " + f, f, () -> x.feastOn(1999, due[f]));
            }
        }
        Due.is("a feast by its rule", christmas, () -> x.feast(6, 1999));
        Due.element("a feast without a day", () -> x.placedFeast(5, 1999));
        Due.is("a feast with a day", 730178, () -> x.placedFeast(5, 2000));
        Due.element("no feast on a day", () -> x.feastOn(1999, christmas - 1));
        Due.element("no feast after them", () -> x.feastOn(1999, christmas + 6));
        Due.element("the feasts of another year", () -> x.feastOn(1998, christmas));
        Due.is("the feasts of a year", 1, () -> x.feastOn(1999, christmas));
        Due.is("and of the year before", 1, () -> x.feastOn(1998, christmas - 365));
        Due.index("place of 7", () -> x.placedFeast(7, 2001));
        Due.index("place of -1", () -> x.placedFeast(-1, 2001));
        Due.argument("place in 2001", () -> x.placedFeast(0, 2001));
        Due.argument("place in -2001", () -> x.placedFeast(5, -2001));
        Due.argument("feast on in 2001", () -> x.feastOn(2001, 0));
        Due.argument("feast on in -2001", () -> x.feastOn(-2001, 0));
        Due.argument("feast on 1000000", () -> x.feastOn(1, 1000000));
        Due.argument("feast on -1000000", () -> x.feastOn(1, -1000000));
        Due.element("feast on 999999", () -> x.feastOn(1, 999999));
        x.removeFeast();
        Due.element("a removed feast is not placed", () -> x.feastOn(1999, christmas + 5));
        Due.element("without feasts", () -> new CalendarConverter().feastOn(1, 0));

        CalendarConverter y = with(LATE);
        y.addFeast(0, 4, 1, 1, 8, 0);
        y.addFeast(2, 6, 0, 0, 0, 0);
        y.addFeast(2, 5, 0, 0, 0, 0);
        Due.is("on day 999999", 999999, () -> y.placedFeast(1, 1993));
        Due.is("after day 999999", 1000000, () -> y.placedFeast(2, 1993));
        Due.is("two after day 999999", 1000001, () -> y.placedFeast(0, 1993));
        Due.is("the feast on 999999", 1, () -> y.feastOn(1993, 999999));

        CalendarConverter z = with("m30;e-365");
        z.addFeast(0, 1, 0, 1, 1, 0);
        z.addFeast(0, 0, 1, 1, 1, 0);
        z.addFeast(2, 9, 0, 365, 0, 0);
        z.addFeast(0, 0, 0, 1, 1, 0);
        Due.is("each by its own calendar", -365, () -> z.placedFeast(1, 1));
        Due.is("in the next year of another one", 365, () -> z.placedFeast(2, 1));
        Due.is("not moved by one of the year before", 365, () -> z.placedFeast(0, 2));
        Due.is("moved by one of the same year", 366, () -> z.placedFeast(3, 2));
    }

    private static void promise28() {
        CalendarConverter x = with("m30;e0", "m31;e-199");
        x.addFeast(0, 0, 0, 12, 25, 0);
        x.addFeast(3, 0, 0, 0, 6, 0);
        x.addFeast(0, 0, 1, 1, 1, 0);
        x.addFeast(0, 0, 2, 1, 1, 0);
        x.addFeast(1, 9, 0, 2, 5, 1);
        x.addFeast(2, 9, 4, 0, 0, 0);
        x.addFeast(1, 9, 0, 2, 5, 9);
        x.addFeast(1, 8, 0, 2, 5, 9);
        int sunday = 1801;
        while (LocalDate.of(sunday, 12, 25).getDayOfWeek() != DayOfWeek.SUNDAY) {
            sunday++;
        }
        int tuesday = 1761;
        while (!Year.isLeap(tuesday) || LocalDate.of(tuesday, 2, 29).getDayOfWeek() != DayOfWeek.TUESDAY) {
            tuesday++;
        }
        Due.is("Christmas on Sunday", sunday, () -> x.meetingYear(0, 1, 1801));
        Due.is("Sunday on Christmas", sunday, () -> x.meetingYear(1, 0, 1801));
        Due.is("in the last of 200 years", 200, () -> x.meetingYear(2, 3, 1));
        Due.element("after 200 years", () -> x.meetingYear(2, 3, 0));
        Due.is("in the first year", 200, () -> x.meetingYear(3, 2, 200));
        Due.element("in the year before", () -> x.meetingYear(3, 2, 201));
        Due.is("before they are placed", tuesday, () -> x.meetingYear(4, 5, 1761));
        Due.element("neither has a day", () -> x.meetingYear(6, 7, 1));
        Due.element("one has a day", () -> x.meetingYear(0, 7, 1));
        Due.element("never", () -> x.meetingYear(0, 4, -2000));
        Due.index("feast 8", () -> x.meetingYear(8, 8, 1802));
        Due.index("feast 8 and 0", () -> x.meetingYear(8, 0, 0));
        Due.index("feast -1", () -> x.meetingYear(-1, 0, 0));
        Due.index("other feast 8", () -> x.meetingYear(0, 8, 1802));
        Due.index("other feast -1", () -> x.meetingYear(0, -1, 0));
        Due.argument("the same feast", () -> x.meetingYear(0, 0, 0));
        Due.argument("from 1802", () -> x.meetingYear(0, 1, 1802));
        Due.argument("from -2001", () -> x.meetingYear(0, 1, -2001));
    }

    private static void found(CalendarConverter x, int... due) {
        for (int i = 0; i < due.length; i++) {
            int at = i;
            Due.is("reading " + at / 3 + " " + at % 3, due[at], () -> x.reading(at / 3, at % 3));
        }
        Due.index("reading after the last", () -> x.reading(due.length / 3, 0));
    }

    private static void promise29to31() {
        CalendarConverter x = new CalendarConverter();
        Due.is("1 2 3", 3, () -> x.readings(1, 2, 3));
        found(x, 0, 2, 33, 0, 1, 731, 0, 0, 761);
        Due.is("different days", 3, x::differentDays);
        Due.index("reading -1", () -> x.reading(-1, 9));
        Due.index("reading 3", () -> x.reading(3, 9));
        Due.argument("part 3", () -> x.reading(0, 3));
        Due.argument("part -1", () -> x.reading(0, -1));
        Due.is("31 12 2000", 1, () -> x.readings(31, 12, 2000));
        found(x, 0, 0, 730484);
        Due.is("12 31 -2000", 1, () -> x.readings(12, 31, -2000));
        found(x, 0, 1, -730851 + 365);
        Due.is("2000 2 29", 1, () -> x.readings(2000, 2, 29));
        found(x, 0, 2, 730178);
        Due.is("1900 2 29", 0, () -> x.readings(1900, 2, 29));
        Due.index("no reading", () -> x.reading(0, 0));
        Due.is("no days", 0, x::differentDays);
        Due.is("2001 1 1", 0, () -> x.readings(2001, 1, 1));
        Due.is("0 0 0", 0, () -> x.readings(0, 0, 0));
        Due.is("least ints", 0, () -> x.readings(Integer.MIN_VALUE, Integer.MIN_VALUE, Integer.MIN_VALUE));
        Due.is("greatest ints", 0, () -> x.readings(Integer.MAX_VALUE, Integer.MAX_VALUE, Integer.MAX_VALUE));
        set(x, 1, "m31,28,31;e0");
        set(x, 2, "m30;e0");
        set(x, 3, LATE);
        Due.is("1 1 1", 12, () -> x.readings(1, 1, 1));
        found(x, 0, 0, 0, 0, 1, 0, 0, 2, 0, 1, 0, 0, 1, 1, 0, 1, 2, 0, 2, 0, 0, 2, 1, 0, 2, 2, 0,
            3, 0, 500000, 3, 1, 500000, 3, 2, 500000);
        Due.is("two days", 2, x::differentDays);
        Due.is("1 2 1", 10, () -> x.readings(1, 2, 1));
        found(x, 0, 1, 1, 1, 1, 1, 2, 1, 1, 0, 0, 31, 0, 2, 31, 1, 0, 31, 1, 2, 31, 3, 1, 500001, 3, 0, 500060,
            3, 2, 500060);
    }

    private static void readingsStay() {
        CalendarConverter x = new CalendarConverter();
        x.readings(1, 2, 3);
        x.save();
        set(x, 0, "m29,29;e0");
        x.undo();
        x.restore();
        x.addFeast(0, 0, 0, 1, 1, 0);
        found(x, 0, 2, 33, 0, 1, 731, 0, 0, 761);
        Due.is("different days stay", 3, x::differentDays);
    }

    private static void written(CalendarConverter x, int calendar, int day, String due) {
        Due.is("write " + day, due.length(), () -> x.write(calendar, day));
        Due.is("output of " + day, due, () -> output(x));
    }

    private static void promise32and33() {
        readingsStay();
        CalendarConverter x = with(MOONS, EARLY);
        written(x, 0, 0, "1.1.1");
        written(x, 0, -1, "31.12.0");
        written(x, 0, 730178, "29.2.2000");
        written(x, 0, -730851, "1.1.-2000");
        written(x, 0, -730851 + 365, "31.12.-2000");
        written(x, 1, 17, "30.4.1");
        written(x, 1, 18, "1.5i.1");
        written(x, 1, 46, "29.5i.1");
        written(x, 1, 47, "1.1.2");
        written(x, 2, -999999, "5.5.-1992");
        Due.element("outside", () -> x.write(0, 730485));
        Due.element("before", () -> x.write(0, -730852));
        Due.argument("1000000", () -> x.write(0, 1000000));
        Due.argument("-1000000", () -> x.write(0, -1000000));
        Due.index("no calendar", () -> x.write(3, 1000000));
        Due.is("the output stays", "5.5.-1992", () -> output(x));
        x.undo();
        Due.is("the output stays after undo", "5.5.-1992", () -> output(x));
        Due.index("output -1", () -> x.output(-1));
        Due.is("the last character", '2', () -> x.output(8));
        Due.index("output 9", () -> x.output(9));
        Due.index("output of the greatest int", () -> x.output(Integer.MAX_VALUE));
        CalendarConverter y = with("m10,20;e0;i1,7;c2:0");
        written(y, 1, 40, "1.2i.2");
        written(y, 1, 47, "1.3.2");
        written(y, 1, 10, "1.2.1");
    }

    private static void promise34() {
        CalendarConverter x = with("m30;e0", "m60;e0", JULIAN);
        Due.is("with itself", 4001, () -> x.newYears(0, 0, -2000, 2000));
        Due.is("one year", 1, () -> x.newYears(0, 0, 7, 7));
        Due.is("every second year", 1000, () -> x.newYears(1, 2, 1, 2000));
        Due.is("every second year of one year", 0, () -> x.newYears(1, 2, 2, 2));
        Due.is("down to -2000", 2000, () -> x.newYears(1, 2, -2000, 2000));
        Due.is("the other one's years end", 1000, () -> x.newYears(2, 1, 1, 2000));
        Due.is("the other one's years end on both sides", 2000, () -> x.newYears(2, 1, -2000, 2000));
        Due.is("the other one's last year", 1, () -> x.newYears(2, 1, 1000, 1001));
        Due.is("Julian and Gregorian", 100, () -> x.newYears(0, 3, 200, 300));
        Due.is("only the third century", 100, () -> x.newYears(0, 3, -2000, 2000));
        Due.index("no calendar", () -> x.newYears(4, 0, 1, 0));
        Due.index("no other calendar", () -> x.newYears(0, 4, 1, 0));
        Due.argument("from -2001", () -> x.newYears(0, 0, -2001, 0));
        Due.argument("to 2001", () -> x.newYears(0, 0, 0, 2001));
        Due.argument("to before from", () -> x.newYears(0, 0, 1, 0));
    }

    private static void promise35and36() {
        CalendarConverter x = with(MOONS, JULIAN, "m30,1;e0;d2", "m30;e0;l2+");
        Due.is("average of calendar 0", 146097.0 / 400.0, () -> x.averageYear(0));
        Due.is("average with a cycle", 383.0 / 3.0, () -> x.averageYear(1));
        Due.is("average of the Julian one", 365.25, () -> x.averageYear(2));
        Due.is("average without a rule", 31.0, () -> x.averageYear(3));
        Due.is("average without a leap", 30.0, () -> x.averageYear(4));
        Due.index("average of no calendar", () -> x.averageYear(5));
        Due.index("average of -1", () -> x.averageYear(-1));
        Due.is("drift", (float) ((365.25 - 146097.0 / 400.0) * 100.0), () -> x.drift(2, 0));
        Due.is("drift back", (float) ((146097.0 / 400.0 - 365.25) * 100.0), () -> x.drift(0, 2));
        Due.is("drift of thirds", (float) ((146097.0 / 400.0 - 383.0 / 3.0) * 100.0), () -> x.drift(0, 1));
        Due.is("no drift", 0.0f, () -> x.drift(1, 1));
        Due.index("drift of no calendar", () -> x.drift(5, 0));
        Due.index("drift to no calendar", () -> x.drift(0, 5));
        Due.index("drift to -1", () -> x.drift(0, -1));
    }

    private static void promise37() {
        CalendarConverter x = new CalendarConverter();
        set(x, 1, "m30;e0");
        set(x, 0, "m31;e0");
        x.addFeast(0, 0, 1, 1, 1, 0);
        x.addFeast(0, 0, 1, 1, 2, 0);
        x.removeFeast();
        x.save();
        x.restore();
        Due.state("not possible is no change", () -> set(x, 1, "m1;e0"));
        Due.argument("a wrong feast is no change", () -> x.addFeast(9, 0, 0, 0, 0, 0));
        Due.index("a wrong number is no change", () -> x.setCalendar(9));
        write(x, "m30;");
        Due.is("undo restore", 5, x::undo);
        Due.is("undo removeFeast", 4, x::undo);
        Due.is("two feasts", 2, x::feastCount);
        Due.is("the second one again", 1, () -> x.feast(1, 1));
        Due.is("undo addFeast", 3, x::undo);
        Due.is("one feast", 1, x::feastCount);
        Due.is("undo the other addFeast", 2, x::undo);
        Due.is("no feast", 0, x::feastCount);
        Due.is("undo setCalendar 0", 1, x::undo);
        Due.is("twelve months", 12, () -> x.months(0, 1));
        Due.is("undo setCalendar 1", 0, x::undo);
        Due.is("one calendar", 1, x::calendarCount);
        Due.state("nothing left", x::undo);
        Due.is("the text stays", 5, () -> x.appendCharacter('e'));
        for (int change = 1; change <= 9; change++) {
            x.addFeast(0, 0, 0, 1, 1, 0);
            if (change == 8) {
                x.removeFeast();
            }
        }
        for (int left = 5; left >= 0; left--) {
            int due = left;
            Due.is("undo down to " + due, due, x::undo);
        }
        Due.state("a seventh change is forgotten", x::undo);
        Due.is("four feasts", 4, x::feastCount);
        x.removeFeast();
        Due.is("a change after undo", 0, x::undo);
        Due.is("four feasts again", 4, x::feastCount);
    }

    private static void promise38and39() {
        CalendarConverter x = new CalendarConverter();
        Due.state("nothing saved", x::restore);
        set(x, 1, "m30;e0");
        x.addFeast(0, 0, 1, 1, 7, 0);
        Due.is("save", 2, x::save);
        Due.is("save is no change", 1, x::undo);
        Due.is("no feast", 0, x::feastCount);
        Due.is("what is saved is not taken back", 2, x::restore);
        Due.is("one feast", 1, x::feastCount);
        set(x, 1, "m40;e0");
        set(x, 2, "m50;e0");
        x.removeFeast();
        x.addFeast(0, 0, 1, 1, 8, 0);
        x.addFeast(0, 0, 2, 1, 9, 0);
        Due.is("restore", 2, x::restore);
        Due.is("the calendar", 30, () -> x.yearLength(1, 1));
        Due.index("the other calendar", () -> x.yearLength(2, 1));
        Due.is("the feast", 6, () -> x.feast(0, 1));
        Due.is("feasts", 1, x::feastCount);
        Due.is("restore again", 2, x::restore);
        Due.is("undo", 5, x::undo);
        Due.is("undo again", 4, x::undo);
        Due.is("three calendars", 3, x::calendarCount);
        Due.is("the feast before", 8, () -> x.feast(1, 1));
        Due.is("its calendar", 50, () -> x.yearLength(2, 1));
        Due.is("save in its place", 3, x::save);
        x.removeFeast();
        Due.is("restore the later one", 3, x::restore);
        Due.is("two feasts", 2, x::feastCount);
        x.readings(1, 1, 1);
        x.write(0, 0);
        write(x, "m");
        x.restore();
        Due.is("the text stays", 2, () -> x.appendCharacter('3'));
        Due.is("the readings stay", 1, x::differentDays);
        Due.is("the output stays", "1.1.1", () -> output(x));
    }
}
