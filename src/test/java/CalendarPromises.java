/** The sentences of the promises 7 to 18. */
final class CalendarPromises extends Boundary {
    private static final int[] NO_YEARS = {-2001, 2001, LEAST, GREATEST};
    private static final int[] NO_CALENDARS = {-1, 3, 6, LEAST, GREATEST};
    private static final int[] NO_DAYS = {-1000000, 1000000, LEAST, GREATEST};
    /** Calendars 0 to 2: the first of a new object, PLAIN and MIDDLE. */
    private static final Make THREE = settled(PLAIN, MIDDLE);
    /** Calendars 0 to 2: the first of a new object, LATE and EARLY. */
    private static final Make FAR = settled(LATE, EARLY);

    private CalendarPromises() {
    }

    private static CalendarConverter three() {
        return with(PLAIN, MIDDLE);
    }

    private static CalendarConverter far() {
        return with(LATE, EARLY);
    }

    @Says(in = "7", value = {"Returns whether a year is a leap year by the leap rule.", "Returns whether it is."})
    static void p07LeapYear() {
        CalendarConverter x = with("m30;e0;d1", "m30;e0;l2+", "m30;e0;i1,1;c3:2");
        are(x, (y, year) -> y.isLeapYear(0, year) ? 1 : 0, 4, 1, 100, 0, 400, 1, 1, 0);
        are(x, (y, year) -> y.isLeapYear(1, year) ? 1 : 0, 4, 0, 0, 0);
        are(x, (y, year) -> y.isLeapYear(2, year) ? 1 : 0, 4, 1, 3, 0);
        are(x, (y, year) -> y.isLeapYear(3, year) ? 1 : 0, 2, 1, 3, 0, -1, 1);
    }

    @Says(in = "7", value = "- `year`: the year, -2000 to 2000")
    static void p07Year() {
        CalendarConverter x = three();
        are(x, (y, year) -> y.isLeapYear(0, year) ? 1 : 0, -2000, 1, -1999, 0, -1996, 1, -1900, 0, 0, 1, 1999, 0, 2000, 1);
    }

    @Says(in = "7", value = {"- `calendar`: the number of the calendar", "Throws `IndexOutOfBoundsException` if there is no such calendar"})
    static void p07Index() {
        are(three(), (y, calendar) -> y.isLeapYear(calendar, 1) ? 1 : 0, 0, 0, 1, 0, 2, 1);
        refusedFor(INDEX, THREE, (x, calendar) -> x.isLeapYear(calendar, 1), NO_CALENDARS);
    }

    @Says(in = "7", value = "Throws `IllegalArgumentException` if the year is out of range")
    static void p07Argument() {
        refusedFor(ARGUMENT, THREE, (x, year) -> x.isLeapYear(0, year), NO_YEARS);
    }

    @Says(in = "8", value = {"Returns the number of months of a year.", "Returns the number."})
    static void p08Months() {
        CalendarConverter x = with("m3,3,3,3,3,3,3,3,3,3,3,3,3,3;e0;i14,1;c2:1", MIDDLE, "m30,1;e0;d2;l1+");
        are(x, (y, year) -> y.months(1, year), 1, 15, 2, 14);
        are(x, (y, year) -> y.months(2, year), 1, 3, 2, 2, -1, 3, 0, 2);
        are(x, (y, year) -> y.months(3, year), 1, 2);
    }

    @Says(in = "8", value = "- `year`: the year, -2000 to 2000")
    static void p08Year() {
        are(three(), (y, year) -> y.months(2, year), -2000, 2, -1999, 3, 1999, 3, 2000, 2);
    }

    @Says(in = "8", value = {"- `calendar`: the number of the calendar", "Throws `IndexOutOfBoundsException` if there is no such calendar"})
    static void p08Index() {
        are(three(), (y, calendar) -> y.months(calendar, 1), 0, 12, 1, 1, 2, 3);
        refusedFor(INDEX, THREE, (x, calendar) -> x.months(calendar, 1), NO_CALENDARS);
    }

    @Says(in = "8", value = "Throws `IllegalArgumentException` if the year is out of range")
    static void p08Argument() {
        refusedFor(ARGUMENT, THREE, (x, year) -> x.months(0, year), NO_YEARS);
    }

    @Says(in = "9", value = {"Returns the length of a month.", "Returns the number of days."})
    static void p09Length() {
        CalendarConverter x = three();
        are(x, (y, month) -> y.monthLength(0, 1, month), 1, 31, 2, 28, 3, 31, 4, 30, 5, 31, 6, 30, 7, 31, 8, 31, 9, 30, 10, 31, 11, 30,
            12, 31);
        is(29, () -> x.monthLength(0, 4, 2));
        is(30, () -> x.monthLength(1, 1, 1));
    }

    @Says(in = "9", value = "- `year`: the year, -2000 to 2000")
    static void p09Year() {
        are(three(), (y, year) -> y.monthLength(2, year, 2), -2000, 20, -1999, 7, 1999, 7, 2000, 20);
        are(three(), (y, year) -> y.monthLength(0, year, 2), -2000, 29, -1999, 28, 1999, 28, 2000, 29);
    }

    @Says(in = "9", value = "- `month`: the month")
    static void p09Month() {
        are(three(), (y, month) -> y.monthLength(2, 1, month), 1, 10, 2, 7, 3, 20);
        are(three(), (y, month) -> y.monthLength(2, 2, month), 1, 10, 2, 20);
        are(with("m2,2,2,2,2,2,2,2,2,2,2,2,2,9;e0;i14,1;l1+"), (y, month) -> y.monthLength(1, 1, month), 13, 2, 14, 9, 15, 1);
    }

    @Says(in = "9", value = {"- `calendar`: the number of the calendar", "Throws `IndexOutOfBoundsException` if there is no such calendar"})
    static void p09Index() {
        are(three(), (y, calendar) -> y.monthLength(calendar, 1, 1), 0, 31, 1, 30, 2, 10);
        refusedFor(INDEX, THREE, (x, calendar) -> x.monthLength(calendar, 1, 1), NO_CALENDARS);
    }

    @Says(in = "9", value = "Throws `IllegalArgumentException` if the year is out of range or has no such month")
    static void p09Argument() {
        refusedFor(ARGUMENT, THREE, (x, year) -> x.monthLength(0, year, 1), NO_YEARS);
        refusedFor(ARGUMENT, THREE, (x, month) -> x.monthLength(2, 1, month), 0, 4, -1, LEAST, GREATEST);
        refusedFor(ARGUMENT, THREE, (x, month) -> x.monthLength(2, 2, month), 0, 3, -1, LEAST, GREATEST);
        refusedFor(ARGUMENT, THREE, (x, month) -> x.monthLength(0, 4, month), 0, 13);
    }

    @Says(in = "10", value = {"Returns whether a month is intercalary.", "Returns whether it is."})
    static void p10Intercalary() {
        CalendarConverter x = with(MIDDLE, "m10,20;e0;i2,7;c2:1", "m10,20;e0;d1;l1+");
        are(x, (y, month) -> y.isIntercalary(1, 1, month) ? 1 : 0, 1, 0, 2, 1, 3, 0);
        are(x, (y, month) -> y.isIntercalary(1, 2, month) ? 1 : 0, 1, 0, 2, 0);
        are(x, (y, month) -> y.isIntercalary(2, 1, month) ? 1 : 0, 1, 0, 2, 0, 3, 1);
        are(x, (y, month) -> y.isIntercalary(3, 1, month) ? 1 : 0, 1, 0, 2, 0);
    }

    @Says(in = "10", value = "- `year`: the year, -2000 to 2000")
    static void p10Year() {
        are(three(), (y, year) -> y.isIntercalary(2, year, 2) ? 1 : 0, -2000, 0, -1999, 1, 1999, 1, 2000, 0);
    }

    @Says(in = "10", value = "- `month`: the month")
    static void p10Month() {
        are(with("m2,2,2,2,2,2,2,2,2,2,2,2,2,9;e0;i14,1;l1+"), (y, month) -> y.isIntercalary(1, 1, month) ? 1 : 0, 1, 0, 14, 0, 15, 1);
    }

    @Says(in = "10", value = {"- `calendar`: the number of the calendar", "Throws `IndexOutOfBoundsException` if there is no such calendar"})
    static void p10Index() {
        are(with(MIDDLE, "m30,1;e0"), (y, calendar) -> y.isIntercalary(calendar, 1, 2) ? 1 : 0, 0, 0, 1, 1, 2, 0);
        refusedFor(INDEX, THREE, (x, calendar) -> x.isIntercalary(calendar, 1, 1), NO_CALENDARS);
    }

    @Says(in = "10", value = "Throws `IllegalArgumentException` if the year is out of range or has no such month")
    static void p10Argument() {
        refusedFor(ARGUMENT, THREE, (x, year) -> x.isIntercalary(2, year, 1), NO_YEARS);
        refusedFor(ARGUMENT, THREE, (x, month) -> x.isIntercalary(2, 1, month), 0, 4, -1, LEAST, GREATEST);
        refusedFor(ARGUMENT, THREE, (x, month) -> x.isIntercalary(2, 2, month), 0, 3, -1, LEAST, GREATEST);
    }

    @Says(in = "11", value = {"Returns the length of a year.", "Returns the number of days."})
    static void p11Length() {
        CalendarConverter x = with(MIDDLE, "m60,60,60,60,60,60,60,60,60,60,60,60,60,60;e0;i7,60;l1+", PLAIN);
        are(x, (y, year) -> y.yearLength(1, year), 1, 37, 2, 30, 0, 30, -1, 37);
        is(900, () -> x.yearLength(2, 1));
        is(30, () -> x.yearLength(3, 1));
    }

    @Says(in = "11", value = "- `year`: the year, -2000 to 2000")
    static void p11Year() {
        are(three(), (y, year) -> y.yearLength(0, year), -2000, 366, -1999, 365, 1999, 365, 2000, 366);
        are(three(), (y, year) -> y.yearLength(2, year), -2000, 30, -1999, 37, 1999, 37, 2000, 30);
    }

    @Says(in = "11", value = {"- `calendar`: the number of the calendar", "Throws `IndexOutOfBoundsException` if there is no such calendar"})
    static void p11Index() {
        are(three(), (y, calendar) -> y.yearLength(calendar, 1), 0, 365, 1, 30, 2, 37);
        refusedFor(INDEX, THREE, (x, calendar) -> x.yearLength(calendar, 1), NO_CALENDARS);
    }

    @Says(in = "11", value = "Throws `IllegalArgumentException` if the year is out of range")
    static void p11Argument() {
        refusedFor(ARGUMENT, THREE, (x, year) -> x.yearLength(0, year), NO_YEARS);
    }

    @Says(in = "12", value = {"Returns the first day of a year; it can be any int.", "Returns the day."})
    static void p12FirstDay() {
        CalendarConverter x = with("m60,60,60,60,60,60,60,60,60,60,60,60,60,60;e500000;i7,60;l1+",
            "m60,60,60,60,60,60,60,60,60,60,60,60,60,60;e-500000;i7,60;l1+", LATE, EARLY);
        are(x, (y, year) -> y.firstDay(1, year), 1, 500000, 0, 499100, 2000, 500000 + 1999 * 900, -2000, 500000 - 2001 * 900);
        are(x, (y, year) -> y.firstDay(2, year), 1, -500000, 0, -500900, 2000, -500000 + 1999 * 900, -2000, -500000 - 2001 * 900);
        are(x, (y, year) -> y.firstDay(3, year), 1993, 999992, 1994, 1000243);
        are(x, (y, year) -> y.firstDay(4, year), -1991, -999992, -1992, -1000243);
    }

    @Says(in = "12", value = "- `year`: the year, -2000 to 2000")
    static void p12Year() {
        are(three(), (y, year) -> y.firstDay(0, year), -2000, -730851, -1999, -730485, 2000, 730119);
        are(three(), (y, year) -> y.firstDay(1, year), -2000, -60030, 0, -30, 1, 0, 2000, 59970);
        are(three(), (y, year) -> y.firstDay(2, year), -2000, -67030, -1, -67, 0, -30, 1, 0, 2, 37, 3, 67, 2000, 37 + 999 * 67);
    }

    @Says(in = "12", value = {"- `calendar`: the number of the calendar", "Throws `IndexOutOfBoundsException` if there is no such calendar"})
    static void p12Index() {
        are(three(), (y, calendar) -> y.firstDay(calendar, 2), 0, 365, 1, 30, 2, 37);
        refusedFor(INDEX, THREE, (x, calendar) -> x.firstDay(calendar, 1), NO_CALENDARS);
    }

    @Says(in = "12", value = "Throws `IllegalArgumentException` if the year is out of range")
    static void p12Argument() {
        refusedFor(ARGUMENT, THREE, (x, year) -> x.firstDay(1, year), NO_YEARS);
    }

    @Says(in = "13", value = {"Returns the day of a date.", "Returns the day."})
    static void p13Day() {
        CalendarConverter x = three();
        are(x, (y, year) -> y.dayOf(0, year, 3, 1), 1, 59, 4, 1155, 0, -306, -1, -672);
        is(730178, () -> x.dayOf(0, 2000, 2, 29));
        is(-1, () -> x.dayOf(1, 0, 1, 30));
    }

    @Says(in = "13", value = "- `year`: the year, -2000 to 2000")
    static void p13Year() {
        are(three(), (y, year) -> y.dayOf(1, year, 1, 30), -2000, -60001, 0, -1, 2000, 59999);
    }

    @Says(in = "13", value = "- `month`: the month")
    static void p13Month() {
        are(three(), (y, month) -> y.dayOf(2, 1, month, 1), 1, 0, 2, 10, 3, 17);
        are(three(), (y, month) -> y.dayOf(2, 2, month, 1), 1, 37, 2, 47);
        are(three(), (y, month) -> y.dayOf(0, 1, month, 1), 1, 0, 12, 334);
    }

    @Says(in = "13", value = "- `day`: the day of the month")
    static void p13DayOfMonth() {
        are(three(), (y, day) -> y.dayOf(2, 1, 2, day), 1, 10, 7, 16);
        are(three(), (y, day) -> y.dayOf(0, 4, 2, day), 1, 1126, 29, 1154);
        are(with("m60;e0;d1;l1+"), (y, day) -> y.dayOf(1, 1, 1, day), 60, 59, 61, 60);
    }

    @Says(in = "13", value = {"- `calendar`: the number of the calendar", "Throws `IndexOutOfBoundsException` if there is no such calendar"})
    static void p13Index() {
        are(three(), (y, calendar) -> y.dayOf(calendar, 2, 1, 1), 0, 365, 1, 30, 2, 37);
        refusedFor(INDEX, THREE, (x, calendar) -> x.dayOf(calendar, 1, 1, 1), NO_CALENDARS);
    }

    @Says(in = "13", value = "Throws `IllegalArgumentException` if there is no such date")
    static void p13NoDate() {
        refusedFor(ARGUMENT, THREE, (x, year) -> x.dayOf(1, year, 1, 1), NO_YEARS);
        refusedFor(ARGUMENT, THREE, (x, month) -> x.dayOf(2, 1, month, 1), 0, 4, -1, LEAST, GREATEST);
        refusedFor(ARGUMENT, THREE, (x, month) -> x.dayOf(2, 2, month, 1), 0, 3, LEAST, GREATEST);
        refusedFor(ARGUMENT, THREE, (x, day) -> x.dayOf(2, 1, 2, day), 0, 8, -1, LEAST, GREATEST);
        refusedFor(ARGUMENT, THREE, (x, day) -> x.dayOf(0, 4, 2, day), 0, 30);
        refusedFor(ARGUMENT, THREE, (x, day) -> x.dayOf(0, 1, 2, day), 0, 29);
    }

    @Says(in = "13", value = "or its day is not from -999999 to 999999")
    static void p13FarDay() {
        is(999999, () -> far().dayOf(1, 1993, 1, 8));
        is(-999999, () -> far().dayOf(2, -1992, 5, 5));
        refused(ARGUMENT, FAR, x -> x.dayOf(1, 1993, 1, 9), x -> x.dayOf(1, 2000, 5, 11), x -> x.dayOf(2, -1992, 5, 4),
            x -> x.dayOf(2, -2000, 1, 1));
    }

    @Says(in = "14", value = {"Returns a part of the date of a day.", "Returns the part."})
    static void p14Date() {
        CalendarConverter x = three();
        are(x, (y, part) -> y.date(0, 1154, part), 0, 4, 1, 2, 2, 29, 3, 60, 4, 6);
        are(x, (y, part) -> y.date(2, 17, part), 0, 1, 1, 3, 2, 1, 3, 18, 4, 3);
        are(x, (y, part) -> y.date(2, 16, part), 0, 1, 1, 2, 2, 7, 3, 17, 4, 2);
        are(x, (y, part) -> y.date(2, -1, part), 0, 0, 1, 2, 2, 20, 3, 30, 4, 6);
    }

    @Says(in = "14", value = "- `day`: the day, -999999 to 999999")
    static void p14Day() {
        are(far(), (y, part) -> y.date(1, 999999, part), 0, 1993, 1, 1, 2, 8, 3, 8, 4, 0);
        are(far(), (y, part) -> y.date(2, -999999, part), 0, -1992, 1, 5, 2, 5, 3, 245, 4, 0);
    }

    @Says(in = "14", value = "- `part`: 0 for the year, 1 for the month, 2 for the day of the month, 3 for the day of the year, from 1, "
        + "4 for the weekday")
    static void p14Part() {
        CalendarConverter x = three();
        are(x, (y, part) -> y.date(0, 0, part), 0, 1, 1, 1, 2, 1, 3, 1, 4, 0);
        are(x, (y, part) -> y.date(0, 364, part), 0, 1, 1, 12, 2, 31, 3, 365, 4, 0);
        are(x, (y, part) -> y.date(0, -1, part), 0, 0, 1, 12, 2, 31, 3, 366, 4, 6);
        are(x, (y, part) -> y.date(0, 365, part), 0, 2, 1, 1, 2, 1, 3, 1, 4, 1);
    }

    @Says(in = "14", value = {"- `calendar`: the number of the calendar", "Throws `IndexOutOfBoundsException` if there is no such calendar"})
    static void p14Index() {
        are(three(), (y, calendar) -> y.date(calendar, 30, 1), 0, 1, 1, 1, 2, 3);
        refusedFor(INDEX, THREE, (x, calendar) -> x.date(calendar, 0, 0), NO_CALENDARS);
    }

    @Says(in = "14", value = "Throws `IllegalArgumentException` if the day or the part is out of range")
    static void p14Argument() {
        refusedFor(ARGUMENT, FAR, (x, day) -> x.date(1, day, 0), NO_DAYS);
        refusedFor(ARGUMENT, FAR, (x, day) -> x.date(2, day, 0), NO_DAYS);
        refusedFor(ARGUMENT, THREE, (x, part) -> x.date(1, 0, part), -1, 5, LEAST, GREATEST);
    }

    @Says(in = "14", value = "Throws `NoSuchElementException` if the day is outside the calendar")
    static void p14Element() {
        are(three(), (y, day) -> y.date(1, day, 0), -60030, -2000, 59999, 2000);
        refusedFor(ELEMENT, THREE, (x, day) -> x.date(1, day, 0), -60031, 60000, -999999, 999999);
        refusedFor(ELEMENT, THREE, (x, part) -> x.date(0, 730485, part), 0, 1, 2, 3, 4);
        refusedFor(ELEMENT, THREE, (x, part) -> x.date(0, -730852, part), 0, 1, 2, 3, 4);
    }

    @Says(in = "15", value = {"Returns a part of the date in another calendar that is the same day as a date.", "Returns the part."})
    static void p15Convert() {
        CalendarConverter x = three();
        are(x, (y, part) -> y.convert(0, 1, 1, 18, 2, part), 0, 1, 1, 3, 2, 1, 3, 18, 4, 3);
        are(x, (y, part) -> y.convert(2, 1, 3, 1, 0, part), 0, 1, 1, 1, 2, 18, 3, 18, 4, 3);
        are(x, (y, part) -> y.convert(0, 0, 12, 31, 1, part), 0, 0, 1, 1, 2, 30, 3, 30, 4, 6);
        are(x, (y, part) -> y.convert(0, 4, 2, 29, 0, part), 0, 4, 1, 2, 2, 29, 3, 60, 4, 6);
    }

    @Says(in = "15", value = "- `year`: the year, -2000 to 2000")
    static void p15Year() {
        are(three(), (y, year) -> y.convert(1, year, 1, 1, 0, 3), -2000, 237, 2000, 71);
        are(three(), (y, year) -> y.convert(1, year, 1, 1, 0, 0), -2000, -164, 2000, 165);
    }

    @Says(in = "15", value = {"- `month`: the month", "- `day`: the day of the month"})
    static void p15MonthAndDay() {
        are(three(), (y, month) -> y.convert(2, 1, month, 1, 0, 2), 1, 1, 2, 11, 3, 18);
        are(three(), (y, day) -> y.convert(2, 1, 2, day, 0, 2), 1, 11, 7, 17);
    }

    @Says(in = "15", value = "- `part`: the part, as for date")
    static void p15Part() {
        are(three(), (y, part) -> y.convert(1, 1, 1, 1, 0, part), 0, 1, 1, 1, 2, 1, 3, 1, 4, 0);
        are(three(), (y, part) -> y.convert(1, 1, 1, 30, 2, part), 0, 1, 1, 3, 2, 13, 3, 30, 4, 1);
    }

    @Says(in = "15", value = {"- `calendar`: the number of the calendar", "- `other`: the other calendar",
        "Throws `IndexOutOfBoundsException` if there is no such calendar"})
    static void p15Index() {
        are(three(), (y, calendar) -> y.convert(calendar, 2, 1, 1, 0, 3), 0, 1, 1, 31, 2, 38);
        are(three(), (y, other) -> y.convert(0, 1, 2, 1, other, 0), 0, 1, 1, 2, 2, 1);
        refusedFor(INDEX, THREE, (x, calendar) -> x.convert(calendar, 1, 1, 1, 0, 0), NO_CALENDARS);
        refusedFor(INDEX, THREE, (x, other) -> x.convert(0, 1, 1, 1, other, 0), NO_CALENDARS);
    }

    @Says(in = "15", value = "Throws `IllegalArgumentException` if there is no such date, its day is not from -999999 to 999999, "
        + "or the part is out of range")
    static void p15Argument() {
        refusedFor(ARGUMENT, THREE, (x, year) -> x.convert(1, year, 1, 1, 0, 0), NO_YEARS);
        refusedFor(ARGUMENT, THREE, (x, month) -> x.convert(2, 1, month, 1, 0, 0), 0, 4, LEAST, GREATEST);
        refusedFor(ARGUMENT, THREE, (x, day) -> x.convert(2, 1, 2, day, 0, 0), 0, 8, LEAST, GREATEST);
        refusedFor(ARGUMENT, THREE, (x, part) -> x.convert(1, 1, 1, 1, 0, part), -1, 5, LEAST, GREATEST);
        is(1993, () -> far().convert(1, 1993, 1, 8, 1, 0));
        is(-1992, () -> far().convert(2, -1992, 5, 5, 2, 0));
        refused(ARGUMENT, FAR, x -> x.convert(1, 1993, 1, 9, 1, 0), x -> x.convert(2, -1992, 5, 4, 2, 0));
    }

    @Says(in = "15", value = "Throws `NoSuchElementException` if the day is outside the other calendar")
    static void p15Element() {
        are(three(), (y, day) -> y.convert(0, 165, 4, day, 1, 0), 10, 2000);
        are(three(), (y, day) -> y.convert(0, -164, 8, day, 1, 0), 24, -2000);
        refused(ELEMENT, THREE, x -> x.convert(0, 165, 4, 11, 1, 0), x -> x.convert(0, -164, 8, 23, 1, 0),
            x -> x.convert(0, 2000, 12, 31, 1, 4), x -> x.convert(0, -2000, 1, 1, 1, 4));
        refused(ELEMENT, FAR, x -> x.convert(1, 1993, 1, 8, 0, 0), x -> x.convert(2, -1992, 5, 5, 0, 0));
    }

    @Says(in = "16", value = "Returns the week of a day.")
    static void p16Week() {
        are(three(), (y, day) -> y.week(0, day, 1), 0, 1, 6, 1, 7, 2, 363, 52, 364, 1, -1, 52, -7, 52, -8, 51);
        are(three(), (y, day) -> y.week(0, day, 0), 0, 1, 363, 1, 364, 2, -1, 0);
        are(three(), (y, day) -> y.week(0, day, 1), 729753, 53, 729756, 53, 729757, 1);
    }

    @Says(in = "16", value = "- `day`: the day, -999999 to 999999")
    static void p16Day() {
        are(far(), (y, part) -> y.week(1, 999999, part), 0, 1993, 1, 2);
        are(far(), (y, part) -> y.week(2, -999999, part), 0, -1992, 1, 36);
    }

    @Says(in = "16", value = "- `part`: 0 for the week year, 1 for the number of the week")
    static void p16Part() {
        are(three(), (y, part) -> y.week(0, 364, part), 0, 2, 1, 1);
        are(three(), (y, part) -> y.week(0, 729753, part), 0, 1998, 1, 53);
    }

    @Says(in = "16", value = "Returns the number; the week year can be -2001 or 2001.")
    static void p16FarYears() {
        CalendarConverter x = with("m30;e0;w7,3,7", "m30;e0;w7,3,1");
        are(x, (y, part) -> y.week(1, -60029, part), 0, -2001, 1, 4);
        are(x, (y, part) -> y.week(1, -60028, part), 0, -2000, 1, 1);
        are(x, (y, part) -> y.week(2, 59993, part), 0, 2000, 1, 4);
        are(x, (y, part) -> y.week(2, 59994, part), 0, 2001, 1, 1);
    }

    @Says(in = "16", value = {"- `calendar`: the number of the calendar", "Throws `IndexOutOfBoundsException` if there is no such calendar"})
    static void p16Index() {
        are(three(), (y, calendar) -> y.week(calendar, 100, 0), 0, 1, 1, 4, 2, 3);
        refusedFor(INDEX, THREE, (x, calendar) -> x.week(calendar, 0, 0), NO_CALENDARS);
    }

    @Says(in = "16", value = "Throws `IllegalArgumentException` if the day or the part is out of range")
    static void p16Argument() {
        refusedFor(ARGUMENT, FAR, (x, day) -> x.week(1, day, 0), NO_DAYS);
        refusedFor(ARGUMENT, FAR, (x, day) -> x.week(2, day, 1), NO_DAYS);
        refusedFor(ARGUMENT, THREE, (x, part) -> x.week(1, 0, part), -1, 2, LEAST, GREATEST);
    }

    @Says(in = "16", value = "Throws `NoSuchElementException` if the day is outside the calendar")
    static void p16Element() {
        are(three(), (y, day) -> y.week(1, day, 1), -60030, 1, 59996, 4, 59999, 1);
        refusedFor(ELEMENT, THREE, (x, day) -> x.week(1, day, 0), -60031, 60000, -999999, 999999);
        refusedFor(ELEMENT, THREE, (x, day) -> x.week(1, day, 1), -60031, 60000);
    }

    @Says(in = "17", value = {"Returns the number of weeks whose week year is a year.", "Returns the number."})
    static void p17Weeks() {
        are(three(), (y, year) -> y.weeks(0, year), 1, 52, 4, 53, 1998, 53, 1999, 52);
        are(three(), (y, year) -> y.weeks(1, year), 1, 4, 2, 5, 3, 4);
        are(with("m30;e0;w2,1,1", "m30;e0;w10,9,10"), (y, calendar) -> y.weeks(calendar, 1), 1, 15, 2, 3);
    }

    @Says(in = "17", value = "- `year`: the year, -2000 to 2000")
    static void p17Year() {
        are(three(), (y, year) -> y.weeks(0, year), -2000, 52, 2000, 52);
        are(with("m30;e0;w7,3,1"), (y, year) -> y.weeks(1, year), -2000, 5, 2000, 4);
    }

    @Says(in = "17", value = {"- `calendar`: the number of the calendar", "Throws `IndexOutOfBoundsException` if there is no such calendar"})
    static void p17Index() {
        are(three(), (y, calendar) -> y.weeks(calendar, 3), 0, 52, 1, 4, 2, 5);
        refusedFor(INDEX, THREE, (x, calendar) -> x.weeks(calendar, 1), NO_CALENDARS);
    }

    @Says(in = "17", value = "Throws `IllegalArgumentException` if the year is out of range")
    static void p17Argument() {
        refusedFor(ARGUMENT, THREE, (x, year) -> x.weeks(1, year), NO_YEARS);
    }

    @Says(in = "18", value = {"Returns the first day of a week; it can be any int.", "Returns the day."})
    static void p18FirstDay() {
        CalendarConverter x = with("m30;e0;w7,3,1", LATE, EARLY);
        is(-60035, () -> x.firstDayOfWeek(1, -2000, 1));
        is(59987, () -> x.firstDayOfWeek(1, 2000, 4));
        is(999992, () -> x.firstDayOfWeek(2, 1993, 1));
        is(1000244, () -> x.firstDayOfWeek(2, 1994, 1));
        is(-1000244, () -> x.firstDayOfWeek(3, -1992, 1));
        is(1001749, () -> x.firstDayOfWeek(2, 2000, 1));
    }

    @Says(in = "18", value = "- `year`: the week year, -2000 to 2000")
    static void p18Year() {
        are(three(), (y, year) -> y.firstDayOfWeek(0, year, 1), -2000, -730849, 0, -364, 1, 0, 2, 364, 2000, 730121);
        are(three(), (y, year) -> y.firstDayOfWeek(1, year, 1), -2000, -60032, 2000, 59969);
    }

    @Says(in = "18", value = "- `week`: the number of the week")
    static void p18Week() {
        are(three(), (y, week) -> y.firstDayOfWeek(0, 1, week), 1, 0, 2, 7, 52, 357);
        are(three(), (y, week) -> y.firstDayOfWeek(0, 4, week), 1, 1092, 53, 1456);
        are(three(), (y, week) -> y.firstDayOfWeek(1, 2, week), 1, 28, 5, 56);
    }

    @Says(in = "18", value = {"- `calendar`: the number of the calendar", "Throws `IndexOutOfBoundsException` if there is no such calendar"})
    static void p18Index() {
        are(three(), (y, calendar) -> y.firstDayOfWeek(calendar, 2, 1), 0, 364, 1, 28, 2, 35);
        refusedFor(INDEX, THREE, (x, calendar) -> x.firstDayOfWeek(calendar, 1, 1), NO_CALENDARS);
    }

    @Says(in = "18", value = "Throws `IllegalArgumentException` if the year is out of range or has no such week")
    static void p18Argument() {
        refusedFor(ARGUMENT, THREE, (x, year) -> x.firstDayOfWeek(1, year, 1), NO_YEARS);
        refusedFor(ARGUMENT, THREE, (x, week) -> x.firstDayOfWeek(0, 1, week), 0, 53, -1, LEAST, GREATEST);
        refusedFor(ARGUMENT, THREE, (x, week) -> x.firstDayOfWeek(0, 4, week), 0, 54);
        refusedFor(ARGUMENT, THREE, (x, week) -> x.firstDayOfWeek(1, 1, week), 0, 5);
        refusedFor(ARGUMENT, THREE, (x, week) -> x.firstDayOfWeek(1, 2, week), 0, 6);
    }
}
