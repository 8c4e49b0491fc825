/** The sentences of the sections "What it is" and "Description" on calls, days, years, calendars, leap years and weeks. */
final class DescriptionBoundaries extends Boundary {
    private static final String WEEKS = "m30;e0;w7,3,";

    private DescriptionBoundaries() {
    }

    @Says(in = "What it is", value = "An object is used for at most 512 calls after it has been made")
    static void call512() {
        CalendarConverter x = new CalendarConverter();
        for (int i = 0; i < 30; i++) {
            int first = 100 + i;
            is(1, () -> set(x, 1, "m30;e" + first + ";l8+125+"));
        }
        is(129, () -> x.calendar(1, 1));
        is(5, x::undo);
    }

    @Says(in = "What it is", value = "An object is used for at most 512 calls after it has been made")
    static void call512OfChanges() {
        CalendarConverter x = new CalendarConverter();
        for (int i = 0; i < 102; i++) {
            is(0, () -> x.addFeast(0, 0, 0, 1, 1, 0));
            is(1, x::save);
            is(1, x::restore);
            is(1, x::undo);
            is(0, x::undo);
        }
        is(STATE, x::undo);
        is(1, x::restore);
    }

    @Says(in = "Description", value = "A call that throws an exception leaves the state unchanged")
    static void refusedCalls() {
        refusedInARow(settled(PLAIN, LATE), x -> x.appendCharacter(32), x -> x.calendar(3, 0), x -> x.calendar(0, 8),
            x -> x.isLeapYear(3, 1), x -> x.isLeapYear(0, 2001), x -> x.months(3, 1), x -> x.months(0, 2001),
            x -> x.monthLength(3, 1, 1), x -> x.monthLength(0, 1, 13), x -> x.isIntercalary(3, 1, 1),
            x -> x.isIntercalary(0, 1, 13), x -> x.yearLength(3, 1), x -> x.yearLength(0, 2001), x -> x.firstDay(3, 1),
            x -> x.firstDay(0, 2001), x -> x.dayOf(3, 1, 1, 1), x -> x.dayOf(0, 1, 2, 29), x -> x.date(3, 0, 0),
            x -> x.date(0, 0, 5), x -> x.date(0, 999999, 0), x -> x.convert(0, 1, 1, 1, 3, 0),
            x -> x.convert(0, 1, 2, 29, 1, 0), x -> x.convert(2, 1993, 1, 8, 0, 0), x -> x.week(3, 0, 0),
            x -> x.week(0, 0, 2), x -> x.week(0, 999999, 0), x -> x.weeks(3, 1), x -> x.weeks(0, 2001),
            x -> x.firstDayOfWeek(3, 1, 1), x -> x.firstDayOfWeek(0, 1, 53), x -> x.plus(3, 0, 0),
            x -> x.plus(0, 0, 10000), x -> x.plus(0, 730484, 1), x -> x.plusYears(3, 0, 0),
            x -> x.plusYears(0, 0, 4001), x -> x.plusYears(0, 730484, 1), x -> x.span(3, 0, 0, 0),
            x -> x.span(0, 0, 0, 3), x -> x.span(0, 0, 999999, 0), x -> x.addFeast(5, 0, 0, 1, 1, 0),
            x -> x.feast(2, 1), x -> x.feast(0, 2001), x -> x.placedFeast(2, 1), x -> x.placedFeast(0, 2001),
            x -> x.feastOn(2001, 0), x -> x.feastOn(1, 5), x -> x.meetingYear(0, 2, 1), x -> x.meetingYear(0, 0, 1),
            x -> x.reading(99, 0), x -> x.reading(0, 3), x -> x.write(3, 0), x -> x.write(0, 1000000),
            x -> x.write(0, 999999), x -> x.output(9), x -> x.newYears(3, 0, 1, 1), x -> x.newYears(0, 0, 1, 0),
            x -> x.averageYear(3), x -> x.drift(0, 3));
        refusedInARow(CalendarConverter::new, CalendarConverter::removeFeast, CalendarConverter::undo,
            CalendarConverter::restore, x -> x.output(0), x -> x.reading(0, 0), x -> x.feast(0, 1));
    }

    @Says(in = "Description", value = "except that the text and its fault position are treated as described")
    static void refusedTexts() {
        refusedText(INDEX, 4, 3, "m30;e0");
        refusedText(ARGUMENT, 6, 1, "m30;e0x");
        refusedText(STATE, -1, 1, "m29;e0");
        CalendarConverter x = new CalendarConverter();
        write(x, "m30;e");
        is(ARGUMENT, () -> x.appendCharacter(32));
        is(6, () -> x.appendCharacter('9'));
        is(1, () -> x.setCalendar(1));
        is(9, () -> x.firstDay(1, 1));
    }

    @Says(in = "Description", value = "they are checked in the order in which they are listed")
    static void order() {
        Make make = settled(PLAIN, LATE, "m30;e0;w2,0,1");
        refused(INDEX, make, x -> x.calendar(4, 8), x -> x.isLeapYear(4, 2001), x -> x.months(4, 2001),
            x -> x.monthLength(4, 2001, 0), x -> x.isIntercalary(4, 2001, 0), x -> x.yearLength(4, 2001),
            x -> x.firstDay(4, 2001), x -> x.dayOf(4, 2001, 0, 0), x -> x.date(4, 1000000, 5),
            x -> x.convert(4, 2001, 0, 0, 4, 5), x -> x.convert(0, 2001, 0, 0, 4, 5), x -> x.convert(4, 2001, 0, 0, 0, 5),
            x -> x.week(4, 1000000, 2), x -> x.weeks(4, 2001), x -> x.firstDayOfWeek(4, 2001, 0),
            x -> x.plus(4, 1000000, 10000), x -> x.plusYears(4, 1000000, 4001), x -> x.span(4, 1, 0, 3),
            x -> x.feast(2, 2001), x -> x.placedFeast(2, 2001), x -> x.meetingYear(2, 2, 1802),
            x -> x.meetingYear(0, 2, 1802), x -> x.meetingYear(2, 0, 1802), x -> x.reading(99, 3),
            x -> x.write(4, 1000000), x -> x.newYears(4, 0, 1, 0), x -> x.newYears(0, 4, 1, 0));
        refused(ARGUMENT, make, x -> x.date(1, 60000, 5), x -> x.date(1, 1000000, 0), x -> x.convert(2, 1993, 1, 8, 0, 5),
            x -> x.convert(2, 1993, 1, 9, 0, 0), x -> x.week(1, 60000, 2), x -> x.week(1, 1000000, 0),
            x -> x.plus(1, 60000, 10000), x -> x.plus(1, 1000000, 0), x -> x.plusYears(1, 60000, 4001),
            x -> x.plusYears(1, 1000000, 0), x -> x.span(1, 60000, 60000, 3), x -> x.span(1, 60001, 60000, 0),
            x -> x.write(1, 1000000), x -> x.feastOn(2001, 5), x -> x.feastOn(1, 1000000), x -> x.meetingYear(0, 0, 1802));
        Make none = () -> {
            CalendarConverter x = with("m30;e0;w2,0,1");
            x.addFeast(1, 0, 1, 1, 1, 2);
            x.addFeast(0, 0, 1, 1, 1, 0);
            return x;
        };
        refused(ELEMENT, none, x -> x.feast(0, 1), x -> x.placedFeast(0, 1), x -> x.meetingYear(0, 1, 1801));
        refused(ARGUMENT, none, x -> x.feast(0, 2001), x -> x.placedFeast(0, 2001), x -> x.meetingYear(0, 1, 1802));
        refusedText(INDEX, 4, 3, "m30;x");
        refusedText(INDEX, 4, 3, "m29;e0");
        refusedText(ARGUMENT, 6, 1, "m29;e0x");
        refused(ARGUMENT, DescriptionBoundaries::withFullText, x -> x.appendCharacter(32));
        refused(ARGUMENT, DescriptionBoundaries::withEightFeasts, x -> x.addFeast(0, 10, 0, 1, 1, 0));
    }

    private static CalendarConverter withFullText() {
        CalendarConverter x = new CalendarConverter();
        write(x, LONG);
        return x;
    }

    private static CalendarConverter withEightFeasts() {
        CalendarConverter x = new CalendarConverter();
        for (int i = 0; i < 8; i++) {
            x.addFeast(0, i, 0, 1, 1, 0);
        }
        return x;
    }

    @Says(in = "Description", value = "Days are numbers from -999999 to 999999.")
    static void days() {
        CalendarConverter x = with(LATE, EARLY);
        is(999999, () -> x.dayOf(1, 1993, 1, 8));
        is(-999999, () -> x.dayOf(2, -1992, 5, 5));
        is(8, () -> x.date(1, 999999, 2));
        is(5, () -> x.date(2, -999999, 2));
        Make make = settled(LATE, EARLY);
        refused(ARGUMENT, make, y -> y.dayOf(1, 1993, 1, 9), y -> y.dayOf(2, -1992, 5, 4), y -> y.date(1, 1000000, 2),
            y -> y.date(2, -1000000, 2));
    }

    @Says(in = "Description", value = "Years are numbers from -2000 to 2000")
    static void years() {
        CalendarConverter x = with(PLAIN);
        are(x, (y, year) -> y.firstDay(1, year), -2000, -60030, 2000, 59970);
        refusedFor(ARGUMENT, settled(PLAIN), (y, year) -> y.firstDay(1, year), -2001, 2001, LEAST, GREATEST);
    }

    @Says(in = "Description", value = "there is a year 0, and negative years are before it")
    static void yearZero() {
        CalendarConverter x = with(PLAIN);
        are(x, (y, year) -> y.firstDay(1, year), 2, 30, 1, 0, 0, -30, -1, -60);
        are(x, (y, day) -> y.date(1, day, 0), 30, 2, 29, 1, 0, 1, -1, 0, -30, 0, -31, -1, -60, -1, -61, -2);
        are(x, (y, year) -> y.yearLength(0, year), -1, 365, 0, 366, 1, 365);
    }

    @Says(in = "Description", value = "The remainder of a year by a number is from 0 to that number minus 1, also for a negative year.")
    static void remainders() {
        CalendarConverter x = with("m30;e0;c30:29", "m30;e0;c30:0", "m30;e0;c30:10", "m30;e0;c30:20", "m30;e0;l7+");
        are(x, (y, year) -> y.isLeapYear(1, year) ? 1 : 0, 29, 1, 28, 0, 30, 0, 0, 0, -1, 1, -2, 0, -29, 0, -30, 0, -31, 1);
        are(x, (y, year) -> y.isLeapYear(2, year) ? 1 : 0, 30, 1, 29, 0, 1, 0, 0, 1, -1, 0, -29, 0, -30, 1, -31, 0);
        are(x, (y, year) -> y.isLeapYear(3, year) ? 1 : 0, -2000, 1, -1999, 0, 2000, 0);
        are(x, (y, year) -> y.isLeapYear(4, year) ? 1 : 0, -2000, 0, 2000, 1, 1999, 0);
        are(x, (y, year) -> y.isLeapYear(5, year) ? 1 : 0, -7, 1, -6, 0, -1, 0, 0, 1, 1, 0, -8, 0, -14, 1);
    }

    @Says(in = "Description", value = "A day is outside a calendar if it would be in a year of it that is less than -2000 or greater than 2000.")
    static void outside() {
        CalendarConverter x = with(PLAIN, LATE, EARLY);
        are(x, (y, day) -> y.date(1, day, 0), -60030, -2000, 59999, 2000);
        are(x, (y, day) -> y.date(2, day, 0), -2251, -2000);
        are(x, (y, day) -> y.date(3, day, 0), 1999, 2000);
        are(x, (y, day) -> y.date(0, day, 0), -730851, -2000, 730484, 2000);
        Make make = settled(PLAIN, LATE, EARLY);
        refusedFor(ELEMENT, make, (y, day) -> y.date(1, day, 0), -60031, 60000, -999999, 999999);
        refusedFor(ELEMENT, make, (y, day) -> y.date(2, day, 0), -2252);
        refusedFor(ELEMENT, make, (y, day) -> y.date(3, day, 0), 2000);
        refusedFor(ELEMENT, make, (y, day) -> y.date(0, day, 0), -730852, 730485);
    }

    @Says(in = "Description", value = "There are at most 6 calendars, numbered from 0.")
    static void sixCalendars() {
        CalendarConverter x = with(PLAIN, PLAIN, PLAIN, PLAIN, "m31;e0");
        is(6, x::calendarCount);
        is(12, () -> x.months(0, 1));
        is(31, () -> x.yearLength(5, 1));
        is(INDEX, () -> x.yearLength(6, 1));
        is(INDEX, () -> set(x, 6, PLAIN));
        is(6, x::calendarCount);
        is(1, () -> set(x, 5, "m32;e0"));
        is(32, () -> x.yearLength(5, 1));
        is(6, x::calendarCount);
    }

    @Says(in = "Description", value = "A calendar has 1 to 14 months with lengths from 1 to 60 days")
    static void monthsOfCalendars() {
        CalendarConverter x = with("m60;e0", "m1,1,1,1,1,1,1,1,1,1,1,1,1,60;e0");
        is(1, () -> x.months(1, 1));
        is(60, () -> x.monthLength(1, 1, 1));
        is(14, () -> x.months(2, 1));
        is(1, () -> x.monthLength(2, 1, 1));
        is(60, () -> x.monthLength(2, 1, 14));
        faulty("m;e0", 1);
        faulty("m1,1,1,1,1,1,1,1,1,1,1,1,1,60,1;e0", 29);
        impossible("m0,60;e0", "m61;e0");
    }

    @Says(in = "Description", value = "a first day, which is that of the year 1")
    static void firstDays() {
        CalendarConverter x = with("m30;e-500000", "m30;e500000", MOONS);
        is(-500000, () -> x.firstDay(1, 1));
        is(500000, () -> x.firstDay(2, 1));
        is(1, () -> x.date(2, 500000, 0));
        is(0, () -> x.date(2, 499999, 0));
        is(-100, () -> x.firstDay(3, 1));
        is(-218, () -> x.firstDay(3, 0));
    }

    @Says(in = "Description", value = "a leap, which is none, a leap day in a month, or an intercalary month after a month with a length; "
        + "a leap rule, which is none, by divisors, or by a cycle")
    static void leapsAndRules() {
        String[] leaps = {"", ";d1", ";i1,9"};
        String[] rules = {"", ";l1+", ";c1:0"};
        int[] extra = {0, 1, 9};
        for (int leap = 0; leap < 3; leap++) {
            for (int rule = 0; rule < 3; rule++) {
                CalendarConverter x = with("m30;e0" + leaps[leap] + rules[rule]);
                int dueLeap = leap;
                int dueRule = rule;
                is(dueLeap, () -> x.calendar(1, 2));
                is(dueRule, () -> x.calendar(1, 3));
                is(rule > 0, () -> x.isLeapYear(1, 1));
                is(rule > 0 ? 30 + extra[leap] : 30, () -> x.yearLength(1, 1));
                is(rule > 0 && leap == 2 ? 2 : 1, () -> x.months(1, 1));
            }
        }
        faulty("m30;e0;d1;i1,9", 10);
        faulty("m30;e0;l1+;c1:0", 11);
    }

    @Says(in = "Description", value = "and weeks with a length from 2 to 10, a weekday of the day 0, and a number k from 1 to the length")
    static void weeksOfCalendars() {
        possible("m30;e0;w2,0,1", "m30;e0;w2,1,2", "m30;e0;w10,0,1", "m30;e0;w10,9,10");
        impossible("m30;e0;w1,0,1", "m30;e0;w11,0,1", "m30;e0;w2,2,1", "m30;e0;w10,10,1", "m30;e0;w2,0,0", "m30;e0;w2,0,3",
            "m30;e0;w10,0,11");
        CalendarConverter x = with("m30;e0;w2,1,2", "m30;e0;w10,9,10");
        are(x, (y, part) -> y.calendar(1, part), 4, 2, 5, 1, 6, 2);
        are(x, (y, part) -> y.calendar(2, part), 4, 10, 5, 9, 6, 10);
        is(1, () -> x.date(1, 0, 4));
        is(9, () -> x.date(2, 0, 4));
    }

    @Says(in = "Description", value = "By divisors, there is a list of 1 to 4 numbers with a sign each")
    static void oneToFourDivisors() {
        possible("m30;e0;l5+", "m30;e0;l5-", "m30;e0;l5+10-20+40-");
        faulty("m30;e0;l", 8);
        faulty("m30;e0;l;w7,0,4", 8);
        faulty("m30;e0;l5", 9);
        faulty("m30;e0;l5+10-20+40-80+", 19);
    }

    @Says(in = "Description", value = "a year is a leap year if the last number in the list by which its remainder is 0 has the sign +, "
        + "and not if it has the sign - or there is none")
    static void lastDivisor() {
        CalendarConverter x = with("m30;e0;l2+3-5+7-", "m30;e0;l2-3+");
        are(x, (y, year) -> y.isLeapYear(1, year) ? 1 : 0, 2, 1, 4, 1, 3, 0, 6, 0, 5, 1, 30, 1, 7, 0, 105, 0, 210, 0, 1, 0, 11, 0,
            0, 0, -2, 1, -3, 0, -30, 1, -210, 0, -1, 0);
        are(x, (y, year) -> y.isLeapYear(2, year) ? 1 : 0, 2, 0, 3, 1, 6, 1, 1, 0, 0, 1);
    }

    @Says(in = "Description", value = "a year is a leap year if its remainder by the number is in the set")
    static void cycles() {
        CalendarConverter x = with("m30;e0;c5:0,4", "m30;e0;c1:0", "m30;e0;c30:0,29");
        are(x, (y, year) -> y.isLeapYear(1, year) ? 1 : 0, 0, 1, 1, 0, 3, 0, 4, 1, 5, 1, 6, 0, -1, 1, -2, 0, -5, 1, 2000, 1,
            -2000, 1, 1999, 1, -1999, 0);
        are(x, (y, year) -> y.isLeapYear(2, year) ? 1 : 0, -2000, 1, -1, 1, 0, 1, 1, 1, 2000, 1);
        are(x, (y, year) -> y.isLeapYear(3, year) ? 1 : 0, 0, 1, 1, 0, 28, 0, 29, 1, 30, 1, 31, 0);
    }

    @Says(in = "Description", value = "Without a leap rule no year is a leap year.")
    static void noRule() {
        CalendarConverter x = with("m30;e0", "m30;e0;d1", "m30;e0;i1,9");
        for (int calendar = 1; calendar <= 3; calendar++) {
            int c = calendar;
            are(x, (y, year) -> y.isLeapYear(c, year) ? 1 : 0, -2000, 0, -1, 0, 0, 0, 1, 0, 4, 0, 400, 0, 2000, 0);
            are(x, (y, year) -> y.yearLength(c, year), -2000, 30, 0, 30, 400, 30, 2000, 30);
        }
    }

    @Says(in = "Description", value = "In a leap year, a leap day makes its month longer by 1 day")
    static void leapDays() {
        CalendarConverter x = with("m10,20;e0;d1;c2:1", "m10,20;e0;d2;c2:1", "m60;e0;d1;l1+");
        are(x, (y, month) -> y.monthLength(1, 1, month), 1, 11, 2, 20);
        are(x, (y, month) -> y.monthLength(1, 2, month), 1, 10, 2, 20);
        are(x, (y, month) -> y.monthLength(2, 1, month), 1, 10, 2, 21);
        are(x, (y, month) -> y.monthLength(2, 2, month), 1, 10, 2, 20);
        is(61, () -> x.monthLength(3, 1, 1));
        is(60, () -> x.dayOf(3, 1, 1, 61));
        is(61, () -> x.date(3, 60, 2));
        is(61, () -> x.dayOf(3, 2, 1, 1));
        refused(ARGUMENT, settled("m60;e0;d1;l1+", "m10,20;e0;d1;c2:1"), y -> y.dayOf(1, 1, 1, 62), y -> y.dayOf(2, 1, 1, 12),
            y -> y.dayOf(2, 2, 1, 11));
        is(10, () -> x.dayOf(1, 1, 1, 11));
        is(11, () -> x.dayOf(1, 1, 2, 1));
        is(31, () -> x.firstDay(1, 2));
        is(61, () -> x.firstDay(1, 3));
    }

    @Says(in = "Description", value = "and an intercalary month comes after its month")
    static void intercalaryMonths() {
        CalendarConverter x = with("m10,20;e0;i1,7;c2:1", "m10,20;e0;i2,7;c2:1");
        are(x, (y, month) -> y.monthLength(1, 1, month), 1, 10, 2, 7, 3, 20);
        are(x, (y, month) -> y.monthLength(2, 1, month), 1, 10, 2, 20, 3, 7);
        are(x, (y, day) -> y.date(1, day, 1), 9, 1, 10, 2, 16, 2, 17, 3, 36, 3, 37, 1);
        are(x, (y, day) -> y.date(2, day, 1), 9, 1, 10, 2, 29, 2, 30, 3, 36, 3, 37, 1);
        are(x, (y, month) -> y.isIntercalary(1, 1, month) ? 1 : 0, 1, 0, 2, 1, 3, 0);
        are(x, (y, month) -> y.isIntercalary(2, 1, month) ? 1 : 0, 1, 0, 2, 0, 3, 1);
    }

    @Says(in = "Description", value = "The months of a year are numbered from 1; in a leap year with an intercalary month "
        + "the later months have numbers that are greater by 1 than otherwise.")
    static void monthNumbers() {
        CalendarConverter x = with(MIDDLE);
        is(3, () -> x.months(1, 1));
        is(2, () -> x.months(1, 2));
        is(20, () -> x.monthLength(1, 1, 3));
        is(20, () -> x.monthLength(1, 2, 2));
        is(17, () -> x.dayOf(1, 1, 3, 1));
        is(47, () -> x.dayOf(1, 2, 2, 1));
        refused(ARGUMENT, settled(MIDDLE), y -> y.monthLength(1, 1, 0), y -> y.monthLength(1, 1, 4), y -> y.monthLength(1, 2, 0),
            y -> y.monthLength(1, 2, 3), y -> y.monthLength(1, 1, -1));
    }

    @Says(in = "Description", value = "The weekdays are numbers from 0 to the length minus 1; each day has the next weekday after that "
        + "of the day before, and after the last one comes 0.")
    static void weekdays() {
        CalendarConverter x = with("m30;e0;w2,1,1", "m30;e0;w10,9,1", "m30;e0;w7,3,1");
        are(x, (y, day) -> y.date(1, day, 4), -2, 1, -1, 0, 0, 1, 1, 0, 2, 1, -60030, 1, 59999, 0);
        are(x, (y, day) -> y.date(2, day, 4), -10, 9, -9, 0, -1, 8, 0, 9, 1, 0, 10, 9, 11, 0, -60030, 9, 59999, 8);
        are(x, (y, day) -> y.date(3, day, 4), -4, 6, -3, 0, 0, 3, 3, 6, 4, 0, -60030, 5, 59999, 5);
    }

    @Says(in = "Description", value = "A week begins with the weekday 0.")
    static void beginsOfWeeks() {
        CalendarConverter x = with("m30;e0;w2,1,2", "m30;e0;w10,9,10", "m30;e0;w7,3,4");
        for (int calendar = 0; calendar <= 3; calendar++) {
            int c = calendar;
            for (int year = -3; year <= 3; year++) {
                int of = year;
                int last = x.weeks(c, year);
                is(0, () -> x.date(c, x.firstDayOfWeek(c, of, 1), 4));
                is(0, () -> x.date(c, x.firstDayOfWeek(c, of, last), 4));
            }
        }
        are(x, (y, day) -> y.week(3, day, 1), 3, 1, 4, 2, 10, 2, 11, 3);
    }

    @Says(in = "Description", value = "Week 1 of a year is the week that contains day k of the year")
    static void weekOne() {
        int[] yearOne = {-3, -3, -3, -3, 4, 4, 4};
        int[] yearTwo = {25, 25, 32, 32, 32, 32, 32};
        for (int k = 1; k <= 7; k++) {
            CalendarConverter x = with(WEEKS + k);
            is(yearOne[k - 1], () -> x.firstDayOfWeek(1, 1, 1));
            is(yearTwo[k - 1], () -> x.firstDayOfWeek(1, 2, 1));
            int first = yearOne[k - 1];
            are(x, (y, day) -> y.week(1, day, 0), first - 1, 0, first, 1);
            are(x, (y, day) -> y.week(1, day, 1), first, 1, first + 6, 1, first + 7, 2);
        }
    }

    @Says(in = "Description", value = "the weeks after it are numbered on, up to the one before week 1 of the next year")
    static void weekNumbers() {
        int[] weeks = {4, 4, 5, 5, 4, 4, 4};
        for (int k = 1; k <= 7; k++) {
            CalendarConverter x = with(WEEKS + k);
            int last = weeks[k - 1];
            is(last, () -> x.weeks(1, 1));
            int next = x.firstDayOfWeek(1, 2, 1);
            are(x, (y, day) -> y.week(1, day, 1), next - 8, last - 1, next - 7, last, next - 1, last, next, 1);
            is(next - 7, () -> x.firstDayOfWeek(1, 1, last));
            refusedFor(ARGUMENT, settled(WEEKS + k), (y, week) -> y.firstDayOfWeek(1, 1, week), last + 1, 0);
        }
    }

    @Says(in = "Description", value = "The week year of a day is the year whose weeks contain it; "
        + "it can be one more or less than the year of the day.")
    static void weekYears() {
        CalendarConverter x = with(WEEKS + 5, WEEKS + 1, WEEKS + 4);
        are(x, (y, day) -> y.week(1, day, 0), 0, 0, 3, 0, 4, 1, 29, 1, 31, 1, 32, 2);
        are(x, (y, day) -> y.week(2, day, 0), -4, 0, -3, 1, 24, 1, 25, 2, 29, 2, 30, 2);
        are(x, (y, day) -> y.week(3, day, 0), -3, 1, 0, 1, 29, 1, 31, 1, 32, 2);
        are(x, (y, day) -> y.date(1, day, 0), 3, 1, 31, 2);
        are(x, (y, day) -> y.date(2, day, 0), -3, 0, 29, 1);
    }
}
