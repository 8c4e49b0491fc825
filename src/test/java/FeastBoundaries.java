/** The sentences of the section "Description" on feasts, moved feasts, readings, changes, and its details. */
final class FeastBoundaries extends Boundary {
    private FeastBoundaries() {
    }

    @Says(in = "Description", value = "There are at most 8 feasts, numbered from 0.")
    static void eightFeasts() {
        CalendarConverter x = new CalendarConverter();
        for (int i = 0; i < 8; i++) {
            int number = i;
            is(number, () -> x.addFeast(0, 0, 0, 1, number + 1, 0));
        }
        is(STATE, () -> x.addFeast(0, 0, 0, 1, 9, 0));
        is(8, x::feastCount);
        are(x, (y, feast) -> y.feast(feast, 1), 0, 0, 7, 7);
        refusedFor(INDEX, settled(PLAIN), (y, feast) -> y.feast(feast, 1), -1, 2, 8);
        is(7, x::removeFeast);
        is(7, () -> x.addFeast(0, 0, 0, 1, 9, 0));
        is(8, () -> x.feast(7, 1));
    }

    @Says(in = "Description", value = "A feast has a rule, a rank from 0 to 9")
    static void ranks() {
        CalendarConverter x = new CalendarConverter();
        is(0, () -> x.addFeast(0, 0, 0, 1, 1, 0));
        is(1, () -> x.addFeast(0, 9, 0, 1, 1, 0));
        is(0, () -> x.placedFeast(1, 1));
        is(1, () -> x.placedFeast(0, 1));
        refusedFor(ARGUMENT, settled(PLAIN), (y, rank) -> y.addFeast(0, rank, 0, 1, 1, 0), -1, 10, LEAST, GREATEST);
    }

    @Says(in = "Description", value = "and in each year one day or none")
    static void oneDayOrNone() {
        CalendarConverter x = new CalendarConverter();
        x.addFeast(1, 0, 0, 2, 5, 1);
        int days = 0;
        for (int year = 1; year <= 400; year++) {
            int of = year;
            days += Due.answer(() -> x.feast(0, of)).equals(ELEMENT) ? 0 : 1;
        }
        int due = days;
        is(13, () -> due);
        is(730178, () -> x.feast(0, 2000));
        is(ELEMENT, () -> x.feast(0, 1996));
    }

    @Says(in = "Description", value = "The rules are: 0, a date, with a calendar, a month and a day of the month, "
        + "or the last month or the last day if there are not so many;")
    static void dates() {
        CalendarConverter x = with(MIDDLE);
        x.addFeast(0, 0, 0, 12, 30, 0);
        x.addFeast(0, 0, 0, 13, 31, 0);
        x.addFeast(0, 0, 0, 15, 60, 0);
        x.addFeast(0, 0, 0, 2, 28, 0);
        x.addFeast(0, 0, 0, 2, 29, 0);
        x.addFeast(0, 0, 1, 3, 20, 0);
        x.addFeast(0, 0, 1, 2, 8, 0);
        are(x, (y, feast) -> y.feast(feast, 1), 0, 363, 1, 364, 2, 364, 3, 58, 4, 58, 5, 36, 6, 16);
        are(x, (y, feast) -> y.feast(feast, 4), 3, 1095 + 58, 4, 1095 + 59);
        are(x, (y, feast) -> y.feast(feast, 2), 5, 66, 6, 54);
    }

    @Says(in = "Description", value = "1, a weekday in a month, with a calendar, a month, or the last one if there are not so many, "
        + "a number from 1 to 5, or -1 for the last one, and a weekday: the day of the month that is the first, second and so on "
        + "with this weekday;")
    static void weekdaysInMonths() {
        int[][] due = {{0, 0, 7, 14, 21, 28, 28}, {2, 2, 9, 16, 23, 30, 30}, {3, 3, 10, 17, 24, -1, 24}, {6, 6, 13, 20, 27, -1, 27}};
        for (int[] row : due) {
            CalendarConverter x = new CalendarConverter();
            for (int number = 1; number <= 6; number++) {
                x.addFeast(1, 0, 0, 1, number == 6 ? -1 : number, row[0]);
                int feast = number - 1;
                is(row[number] < 0 ? ELEMENT : String.valueOf(row[number]), () -> x.feast(feast, 1));
            }
        }
        CalendarConverter x = new CalendarConverter();
        x.addFeast(1, 0, 0, 12, 1, 0);
        x.addFeast(1, 0, 0, 13, 1, 0);
        x.addFeast(1, 0, 0, 15, -1, 0);
        are(x, (y, feast) -> y.feast(feast, 1), 0, 336, 1, 336, 2, 364);
        refusedFor(ARGUMENT, settled(PLAIN), (y, number) -> y.addFeast(1, 0, 0, 1, number, 0), 0, 6, -2);
    }

    @Says(in = "Description", value = "2, a number of days from -400 to 400 after an earlier feast;")
    static void daysAfter() {
        CalendarConverter x = new CalendarConverter();
        x.addFeast(0, 0, 0, 1, 1, 0);
        is(1, () -> x.addFeast(2, 0, 0, -400, 0, 0));
        is(2, () -> x.addFeast(2, 0, 0, 400, 0, 0));
        is(3, () -> x.addFeast(2, 0, 2, 0, 0, 0));
        are(x, (y, feast) -> y.feast(feast, 1), 1, -400, 2, 400, 3, 400);
        refusedFor(ARGUMENT, settled(PLAIN), (y, days) -> y.addFeast(2, 0, 0, days, 0, 0), -401, 401, LEAST, GREATEST);
    }

    @Says(in = "Description", value = "3, the first day that is not before the day of an earlier feast and has a weekday in a calendar;")
    static void nextWeekdays() {
        CalendarConverter x = with("m30;e0;w10,9,1");
        x.addFeast(0, 0, 0, 1, 4, 0);
        for (int weekday = 0; weekday < 7; weekday++) {
            x.addFeast(3, 0, 0, 0, weekday, 0);
        }
        are(x, (y, feast) -> y.feast(feast, 1), 1, 7, 2, 8, 3, 9, 4, 3, 5, 4, 6, 5, 7, 6);
        CalendarConverter z = with("m30;e0;w10,9,1");
        z.addFeast(0, 0, 0, 1, 4, 0);
        z.addFeast(3, 0, 0, 1, 2, 0);
        z.addFeast(3, 0, 0, 1, 1, 0);
        z.addFeast(3, 0, 0, 1, 9, 0);
        are(z, (y, feast) -> y.feast(feast, 1), 1, 3, 2, 12, 3, 10);
    }

    @Says(in = "Description", value = "4, the first day that is not before the day of an earlier feast, and less than 400 days after it, "
        + "and has a number as day of the month in a calendar.")
    static void nextNumbers() {
        CalendarConverter x = new CalendarConverter();
        x.addFeast(0, 0, 0, 1, 4, 0);
        x.addFeast(4, 0, 0, 0, 4, 0);
        x.addFeast(4, 0, 0, 0, 5, 0);
        x.addFeast(4, 0, 0, 0, 3, 0);
        x.addFeast(4, 0, 0, 0, 31, 0);
        x.addFeast(4, 0, 0, 0, 32, 0);
        x.addFeast(4, 0, 4, 0, 30, 0);
        are(x, (y, feast) -> y.feast(feast, 1), 1, 3, 2, 4, 3, 33, 4, 30, 6, 88);
        is(ELEMENT, () -> x.feast(5, 1));
        CalendarConverter z = with("m29,29,29,29,29,29,29,29,29,29,29,29,29,30;e0");
        z.addFeast(0, 0, 1, 1, 8, 0);
        z.addFeast(4, 0, 0, 1, 30, 0);
        z.addFeast(0, 0, 1, 1, 7, 0);
        z.addFeast(4, 0, 2, 1, 30, 0);
        z.addFeast(0, 0, 1, 1, 1, 0);
        z.addFeast(4, 0, 4, 1, 30, 0);
        is(7 + 399, () -> z.feast(1, 1));
        is(ELEMENT, () -> z.feast(3, 1));
        is(ELEMENT, () -> z.feast(5, 1));
    }

    @Says(in = "Description", value = "and has a number as day of the month in a calendar")
    static void nextNumbersInLeapYears() {
        CalendarConverter x = with(MIDDLE);
        x.addFeast(0, 0, 1, 15, 20, 0);
        x.addFeast(4, 0, 0, 1, 11, 0);
        x.addFeast(4, 0, 0, 1, 7, 0);
        x.addFeast(2, 0, 0, -20, 0, 0);
        x.addFeast(4, 0, 3, 1, 7, 0);
        are(x, (y, feast) -> y.feast(feast, 1), 0, 36, 1, 57, 2, 43, 3, 16, 4, 16);
        are(x, (y, feast) -> y.feast(feast, 2), 0, 66, 1, 94, 2, 73, 3, 46, 4, 53);
    }

    @Says(in = "Description", value = "The year of a feast by the rules 0 and 1 is that of its calendar; "
        + "that of another one is that of its earlier feast.")
    static void yearsOfFeasts() {
        CalendarConverter x = with(PLAIN);
        x.addFeast(0, 0, 1, 1, 1, 0);
        x.addFeast(1, 0, 1, 1, 1, 1);
        x.addFeast(2, 0, 0, 400, 0, 0);
        x.addFeast(3, 0, 2, 0, 0, 0);
        x.addFeast(4, 0, 2, 0, 1, 0);
        x.addFeast(0, 0, 0, 1, 1, 0);
        are(x, (y, feast) -> y.feast(feast, 5), 0, 120, 1, 120, 2, 520, 3, 525, 4, 546, 5, 1461);
        are(x, (y, feast) -> y.feast(feast, -2000), 0, -60030, 2, -59630, 5, -730851);
        are(x, (y, feast) -> y.feast(feast, 2000), 0, 59970, 2, 60370, 5, 730119);
    }

    @Says(in = "Description", value = "A feast has no day in a year if there is no such day")
    static void noSuchDay() {
        CalendarConverter x = with("m3,40;e0");
        x.addFeast(1, 0, 1, 1, 1, 2);
        x.addFeast(1, 0, 1, 1, 1, 3);
        x.addFeast(1, 0, 1, 1, -1, 3);
        x.addFeast(1, 0, 1, 1, 2, 0);
        is(2, () -> x.feast(0, 1));
        is(ELEMENT, () -> x.feast(1, 1));
        is(ELEMENT, () -> x.feast(2, 1));
        is(ELEMENT, () -> x.feast(3, 1));
    }

    @Says(in = "Description", value = "if its earlier feast has none")
    static void earlierWithoutDay() {
        CalendarConverter x = new CalendarConverter();
        x.addFeast(1, 0, 0, 2, 5, 1);
        x.addFeast(2, 0, 0, 1, 0, 0);
        x.addFeast(3, 0, 0, 0, 2, 0);
        x.addFeast(4, 0, 0, 0, 1, 0);
        x.addFeast(2, 0, 3, -1, 0, 0);
        for (int feast = 0; feast <= 4; feast++) {
            int f = feast;
            is(ELEMENT, () -> x.feast(f, 1999));
            is(730178 + (f == 0 || f == 4 ? 0 : 1), () -> x.feast(f, 2000));
        }
    }

    @Says(in = "Description", value = "by the rules 3 and 4 if a day that is looked at, from that of the earlier feast up to the one "
        + "that is found, is outside the calendar of the rule")
    static void lookedAtOutside() {
        CalendarConverter x = with(PLAIN);
        x.addFeast(0, 0, 1, 1, 29, 0);
        x.addFeast(3, 0, 0, 1, 2, 0);
        x.addFeast(3, 0, 0, 1, 3, 0);
        x.addFeast(3, 0, 0, 0, 3, 0);
        x.addFeast(4, 0, 0, 1, 30, 0);
        x.addFeast(4, 0, 0, 1, 28, 0);
        x.addFeast(2, 0, 0, 2, 0, 0);
        x.addFeast(3, 0, 6, 1, 3, 0);
        are(x, (y, feast) -> y.feast(feast, 2000), 0, 59998, 1, 59999, 3, 60000, 4, 59999, 6, 60000);
        is(ELEMENT, () -> x.feast(2, 2000));
        is(ELEMENT, () -> x.feast(5, 2000));
        is(ELEMENT, () -> x.feast(7, 2000));
        are(x, (y, feast) -> y.feast(feast, 1999), 0, 59968, 2, 59972, 5, 59997, 7, 59972);
    }

    @Says(in = "Description", value = "from that of the earlier feast up to the one that is found, is outside the calendar")
    static void lookedAtBefore() {
        CalendarConverter x = with(PLAIN);
        x.addFeast(0, 0, 1, 1, 1, 0);
        x.addFeast(2, 0, 0, -1, 0, 0);
        x.addFeast(3, 0, 0, 1, 2, 0);
        x.addFeast(3, 0, 1, 1, 2, 0);
        x.addFeast(4, 0, 0, 1, 1, 0);
        x.addFeast(4, 0, 1, 1, 1, 0);
        are(x, (y, feast) -> y.feast(feast, -2000), 0, -60030, 1, -60031, 2, -60030, 4, -60030);
        is(ELEMENT, () -> x.feast(3, -2000));
        is(ELEMENT, () -> x.feast(5, -2000));
        are(x, (y, feast) -> y.feast(feast, -1999), 1, -60001, 2, -59995, 3, -59995, 4, -60000, 5, -60000);
    }

    @Says(in = "Description", value = "or if its day would not be from -999999 to 999999")
    static void lastDays() {
        CalendarConverter x = with(LATE, EARLY);
        x.addFeast(0, 0, 1, 1, 8, 0);
        x.addFeast(2, 0, 0, 0, 0, 0);
        x.addFeast(2, 0, 0, 1, 0, 0);
        x.addFeast(3, 0, 0, 1, 0, 0);
        x.addFeast(3, 0, 0, 1, 1, 0);
        x.addFeast(4, 0, 0, 1, 8, 0);
        x.addFeast(4, 0, 0, 1, 9, 0);
        are(x, (y, feast) -> y.feast(feast, 1993), 0, 999999, 1, 999999, 3, 999999, 5, 999999);
        is(ELEMENT, () -> x.feast(2, 1993));
        is(ELEMENT, () -> x.feast(4, 1993));
        is(ELEMENT, () -> x.feast(6, 1993));
        is(ELEMENT, () -> x.feast(0, 1994));
        CalendarConverter z = with(EARLY, LATE);
        z.addFeast(0, 0, 1, 5, 5, 0);
        z.addFeast(0, 0, 1, 5, 4, 0);
        z.addFeast(2, 0, 0, -1, 0, 0);
        z.addFeast(1, 0, 2, 1, 2, 0);
        z.addFeast(1, 0, 2, 1, 3, 0);
        z.addFeast(0, 0, 2, 1, 9, 0);
        is(-999999, () -> z.feast(0, -1992));
        is(ELEMENT, () -> z.feast(1, -1992));
        is(ELEMENT, () -> z.feast(2, -1992));
        is(999999, () -> z.feast(3, 1993));
        is(ELEMENT, () -> z.feast(4, 1993));
        is(ELEMENT, () -> z.feast(5, 1993));
    }

    @Says(in = "Description", value = "An earlier feast is one with a lower number.")
    static void earlierFeasts() {
        for (int rule = 2; rule <= 4; rule++) {
            int b = rule == 4 ? 1 : 0;
            int r = rule;
            Make two = settled(PLAIN);
            is(2, () -> two.made().addFeast(r, 0, 0, 0, b, 0));
            is(2, () -> two.made().addFeast(r, 0, 1, 0, b, 0));
            refusedFor(ARGUMENT, two, (y, earlier) -> y.addFeast(r, 0, earlier, 0, b, 0), 2, 3, -1, LEAST, GREATEST);
            refusedFor(ARGUMENT, CalendarConverter::new, (y, earlier) -> y.addFeast(r, 0, earlier, 0, b, 0), 0);
        }
    }

    @Says(in = "Description", value = "A weekday that the weeks of a calendar do not have is that of no day.")
    static void noSuchWeekday() {
        CalendarConverter x = with("m30;e0;w2,0,1", "m30;e0;w10,0,1");
        x.addFeast(1, 0, 1, 1, 1, 1);
        x.addFeast(1, 0, 1, 1, 1, 2);
        x.addFeast(1, 0, 1, 1, -1, 2);
        x.addFeast(3, 0, 0, 1, 1, 0);
        x.addFeast(3, 0, 0, 1, 2, 0);
        x.addFeast(1, 0, 2, 1, 1, 9);
        x.addFeast(1, 0, 0, 1, 1, 7);
        x.addFeast(3, 0, 0, 0, 7, 0);
        are(x, (y, feast) -> y.feast(feast, 1), 0, 1, 3, 1, 5, 9);
        are(x, (y, feast) -> y.feast(feast, 2), 0, 31, 3, 31, 5, 39);
        for (int feast : new int[] {1, 2, 4, 6, 7}) {
            is(ELEMENT, () -> x.feast(feast, 1));
        }
        x.removeFeast();
        x.addFeast(3, 0, 0, 1, 9, 0);
        is(ELEMENT, () -> x.feast(7, 1));
        x.removeFeast();
        x.addFeast(1, 0, 1, 1, -1, 9);
        is(ELEMENT, () -> x.feast(7, 1));
    }

    @Says(in = "Description", value = "For a year, the feasts that have a day in the year with this number, each by its own calendar, "
        + "are placed one after the other")
    static void placedInYear() {
        CalendarConverter x = with(PLAIN);
        x.addFeast(0, 5, 0, 1, 1, 0);
        x.addFeast(0, 9, 1, 1, 1, 0);
        x.addFeast(0, 9, 1, 1, 6, 0);
        x.addFeast(1, 9, 0, 2, 5, 1);
        x.addFeast(2, 0, 2, 0, 0, 0);
        are(x, (y, feast) -> y.placedFeast(feast, 1), 0, 1, 1, 0, 2, 5, 4, 6);
        are(x, (y, feast) -> y.placedFeast(feast, 2), 0, 365, 1, 30, 2, 35, 4, 36);
        are(x, (y, feast) -> y.placedFeast(feast, 13), 1, 360, 2, 365, 4, 366);
        are(x, (y, year) -> y.feastOn(year, 365), 2, 0, 13, 2);
        is(ELEMENT, () -> x.placedFeast(3, 1));
        is(ELEMENT, () -> x.feastOn(1, 365));
    }

    @Says(in = "Description", value = "those of greater ranks first, of equal ranks the lower number first")
    static void orderOfRanks() {
        CalendarConverter x = new CalendarConverter();
        int[] ranks = {4, 5, 4, 0, 9, 5, 8, 0};
        int[] due = {4, 2, 5, 6, 0, 3, 1, 7};
        for (int rank : ranks) {
            x.addFeast(0, rank, 0, 1, 1, 0);
        }
        for (int feast = 0; feast < 8; feast++) {
            int f = feast;
            is(due[feast], () -> x.placedFeast(f, 1));
            is(f, () -> x.feastOn(1, due[f]));
        }
    }

    @Says(in = "Description", value = "Each is placed on its day, or, if a feast was placed there before, on the first day after it without one.")
    static void firstFreeDay() {
        CalendarConverter x = new CalendarConverter();
        x.addFeast(0, 9, 0, 1, 1, 0);
        x.addFeast(0, 9, 0, 1, 2, 0);
        x.addFeast(0, 9, 0, 1, 4, 0);
        x.addFeast(0, 8, 0, 1, 1, 0);
        x.addFeast(0, 7, 0, 1, 1, 0);
        x.addFeast(0, 6, 0, 1, 3, 0);
        x.addFeast(0, 0, 0, 1, 8, 0);
        x.addFeast(0, 0, 0, 1, 7, 0);
        are(x, (y, feast) -> y.placedFeast(feast, 1), 0, 0, 1, 1, 2, 3, 3, 2, 4, 4, 5, 5, 6, 7, 7, 6);
        are(x, (y, feast) -> y.feast(feast, 1), 3, 0, 4, 0, 5, 2);
    }

    @Says(in = "Description", value = "Three numbers can be read as a date in three orders: 0 day, month, year; 1 month, day, year; 2 year, month, day.")
    static void orders() {
        CalendarConverter x = new CalendarConverter();
        is(1, () -> x.readings(31, 12, 99));
        is(0, () -> x.reading(0, 1));
        is(x.dayOf(0, 99, 12, 31), () -> x.reading(0, 2));
        is(1, () -> x.readings(12, 31, 99));
        is(1, () -> x.reading(0, 1));
        is(x.dayOf(0, 99, 12, 31), () -> x.reading(0, 2));
        is(1, () -> x.readings(99, 12, 31));
        is(2, () -> x.reading(0, 1));
        is(x.dayOf(0, 99, 12, 31), () -> x.reading(0, 2));
        is(3, () -> x.readings(1, 2, 3));
        are(x, (y, index) -> y.reading(index, 1), 0, 2, 1, 1, 2, 0);
    }

    @Says(in = "Description", value = "The readings are all pairs of a calendar and an order for which there is such a date "
        + "with a day from -999999 to 999999")
    static void allReadings() {
        CalendarConverter x = with(LATE, EARLY);
        is(4, () -> x.readings(8, 1, 1993));
        are(x, (y, index) -> y.reading(index, 0), 0, 2, 1, 0, 2, 0, 3, 1);
        are(x, (y, index) -> y.reading(index, 2), 0, -1, 3, 999999);
        is(3, () -> x.readings(9, 1, 1993));
        are(x, (y, index) -> y.reading(index, 0), 0, 2, 1, 0, 2, 0);
        is(6, () -> x.readings(5, 5, -1992));
        are(x, (y, index) -> y.reading(index, 2), 0, -999999, 1, -999999);
        is(4, () -> x.readings(4, 5, -1992));
        are(x, (y, index) -> y.reading(index, 0), 0, 0, 1, 0, 2, 1, 3, 1);
        is(0, () -> x.readings(60, 60, 60));
        is(0, () -> x.readings(1, 1, 2001));
        is(1, () -> with().readings(2000, 1, 31));
        is(0, () -> with().readings(2000, 1, 32));
    }

    @Says(in = "Description", value = "in ascending order of their days, of the same day in ascending order of the calendars, then of the orders")
    static void orderOfReadings() {
        CalendarConverter x = with("m31,28,31;e0", "m30,30;e-1", "m31;e0", "m31;e-1", "m31;e-1");
        is(18, () -> x.readings(1, 1, 1));
        int[] days = {-1, -1, -1, -1, -1, -1, -1, -1, -1, 0, 0, 0, 0, 0, 0, 0, 0, 0};
        int[] calendars = {2, 2, 2, 4, 4, 4, 5, 5, 5, 0, 0, 0, 1, 1, 1, 3, 3, 3};
        for (int i = 0; i < 18; i++) {
            int index = i;
            is(days[i], () -> x.reading(index, 2));
            is(calendars[i], () -> x.reading(index, 0));
            is(i % 3, () -> x.reading(index, 1));
        }
        is(INDEX, () -> x.reading(18, 0));
    }

    @Says(in = "Description", value = "The changes are the successful calls of setCalendar, addFeast, removeFeast and restore, "
        + "also if nothing is different afterwards.")
    static void changes() {
        CalendarConverter x = new CalendarConverter();
        x.save();
        x.restore();
        is(0, x::undo);
        is(STATE, x::undo);
        set(x, 0, "m31,28,31,30,31,30,31,31,30,31,30,31;e0;d2;l4+100-400+");
        x.restore();
        x.addFeast(0, 0, 0, 1, 1, 0);
        x.removeFeast();
        is(3, x::undo);
        is(1, x::feastCount);
        is(2, x::undo);
        is(0, x::feastCount);
        is(1, x::undo);
        is(0, x::undo);
        is(STATE, x::undo);
    }

    @Says(in = "Description", value = "The changes are the successful calls of")
    static void noChanges() {
        CalendarConverter x = new CalendarConverter();
        is(ARGUMENT, () -> x.setCalendar(0));
        is(STATE, () -> set(x, 0, "m29;e0"));
        is(INDEX, () -> set(x, 2, PLAIN));
        is(ARGUMENT, () -> x.addFeast(0, 10, 0, 1, 1, 0));
        is(STATE, x::removeFeast);
        is(STATE, x::restore);
        is(1, x::save);
        is(3, () -> x.readings(1, 2, 3));
        is(5, () -> x.write(0, 0));
        is(1, () -> x.appendCharacter('m'));
        is(STATE, x::undo);
    }

    @Says(in = "Description", value = "At most 6 of them can be taken back by undo; older ones are forgotten.")
    static void sixChanges() {
        CalendarConverter six = new CalendarConverter();
        CalendarConverter seven = new CalendarConverter();
        for (int i = 0; i < 7; i++) {
            seven.addFeast(0, 0, 0, 1, i + 1, 0);
            if (i < 6) {
                six.addFeast(0, 0, 0, 1, i + 1, 0);
            }
        }
        for (int left = 5; left >= 0; left--) {
            is(left, six::undo);
            is(left, seven::undo);
            is(left, six::feastCount);
            is(left + 1, seven::feastCount);
        }
        is(STATE, six::undo);
        is(STATE, seven::undo);
        is(0, six::feastCount);
        is(1, seven::feastCount);
        is(0, () -> seven.feast(0, 1));
    }

    @Says(in = "Description", value = "The last number in a list of divisors is the last one in the text, whether it is the greatest or not.")
    static void lastNumber() {
        CalendarConverter x = with("m30;e0;l400+100-4+", "m30;e0;l4+2-", "m30;e0;l2-4+", "m30;e0;l3+3-", "m30;e0;l3-3+");
        are(x, (y, year) -> y.isLeapYear(1, year) ? 1 : 0, 400, 1, 100, 1, 4, 1, 2, 0);
        are(x, (y, year) -> y.isLeapYear(2, year) ? 1 : 0, 4, 0, 2, 0, 0, 0);
        are(x, (y, year) -> y.isLeapYear(3, year) ? 1 : 0, 4, 1, 2, 0, 0, 1);
        are(x, (y, year) -> y.isLeapYear(4, year) ? 1 : 0, 3, 0, 1, 0);
        are(x, (y, year) -> y.isLeapYear(5, year) ? 1 : 0, 3, 1, 1, 0);
    }

    @Says(in = "Description", value = "A calendar can have a leap without a leap rule, and a leap rule without a leap; "
        + "its leap years are then told by the rule alone.")
    static void leapOrRuleAlone() {
        CalendarConverter x = with("m30;e0;d1", "m30;e0;i1,9", "m30;e0;l2+", "m30;e0;c2:0");
        is(false, () -> x.isLeapYear(1, 2));
        is(30, () -> x.yearLength(1, 2));
        is(false, () -> x.isLeapYear(2, 2));
        is(1, () -> x.months(2, 2));
        for (int calendar = 3; calendar <= 4; calendar++) {
            int c = calendar;
            is(true, () -> x.isLeapYear(c, 2));
            is(false, () -> x.isLeapYear(c, 1));
            is(30, () -> x.yearLength(c, 2));
            is(1, () -> x.months(c, 2));
            is(30, () -> x.monthLength(c, 2, 1));
            is(false, () -> x.isIntercalary(c, 2, 1));
            is(60, () -> x.firstDay(c, 3));
        }
    }

    @Says(in = "Description", value = "The month 0 does not exist, also for an intercalary month.")
    static void monthZero() {
        possible("m30;e0;i1,5", "m30;e0;d1");
        impossible("m30;e0;i0,5", "m30;e0;d0", "m30;e0;i0,5;l2+");
        refused(ARGUMENT, settled(MIDDLE), x -> x.monthLength(1, 1, 0), x -> x.isIntercalary(1, 1, 0), x -> x.dayOf(1, 1, 0, 1));
    }

    @Says(in = "Description", value = "A remainder can stand twice.")
    static void remainderTwice() {
        possible("m30;e0;c5:4,4", "m30;e0;c5:0,4,0,4,0");
        CalendarConverter x = with("m30;e0;c5:4,4", "m30;e0;c5:4,3,4");
        are(x, (y, year) -> y.isLeapYear(1, year) ? 1 : 0, 4, 1, 3, 0, 5, 0, 9, 1);
        are(x, (y, year) -> y.isLeapYear(2, year) ? 1 : 0, 4, 1, 3, 1, 5, 0, 8, 1);
    }

    @Says(in = "Description", value = "Feasts stay when a calendar of their rules is replaced, and follow the new one.")
    static void replacedCalendars() {
        CalendarConverter x = with(PLAIN);
        x.addFeast(0, 0, 1, 1, 30, 0);
        x.addFeast(1, 0, 1, 1, 5, 1);
        x.addFeast(3, 0, 0, 1, 2, 0);
        x.addFeast(4, 0, 0, 1, 1, 0);
        are(x, (y, feast) -> y.feast(feast, 1), 0, 29, 1, 29, 2, 30, 3, 30);
        set(x, 1, "m20,20;e5;w2,0,1");
        is(4, x::feastCount);
        are(x, (y, feast) -> y.feast(feast, 1), 0, 24, 1, 13, 3, 25);
        is(ELEMENT, () -> x.feast(2, 1));
        is(5, x::undo);
        are(x, (y, feast) -> y.feast(feast, 1), 0, 29, 1, 29, 2, 30, 3, 30);
    }

    @Says(in = "Description", value = "The month of a feast is that with this number in the year, an intercalary one too.")
    static void monthsOfFeasts() {
        CalendarConverter x = with(MIDDLE);
        x.addFeast(0, 0, 1, 2, 1, 0);
        x.addFeast(0, 0, 1, 3, 1, 0);
        x.addFeast(1, 0, 1, 2, 1, 0);
        x.addFeast(1, 0, 1, 3, -1, 0);
        x.addFeast(4, 0, 0, 1, 7, 0);
        are(x, (y, feast) -> y.feast(feast, 1), 0, 10, 1, 17, 2, 14, 3, 35, 4, 16);
        are(x, (y, feast) -> y.feast(feast, 2), 0, 47, 1, 47, 2, 49, 3, 63, 4, 53);
    }

    @Says(in = "Description", value = "If a month has no fifth such weekday, the feast by the rule 1 has no day.")
    static void noFifthWeekday() {
        CalendarConverter x = with("m29,29;e0", "m28,28;e0");
        x.addFeast(1, 0, 1, 1, 5, 0);
        x.addFeast(1, 0, 1, 1, 5, 1);
        x.addFeast(1, 0, 1, 1, 4, 1);
        x.addFeast(1, 0, 2, 1, 5, 0);
        x.addFeast(1, 0, 2, 1, 4, 0);
        x.addFeast(1, 0, 1, 1, 5, 6);
        are(x, (y, feast) -> y.feast(feast, 1), 0, 28, 2, 22, 4, 21);
        is(ELEMENT, () -> x.feast(1, 1));
        is(ELEMENT, () -> x.feast(3, 1));
        is(ELEMENT, () -> x.feast(5, 1));
        is(ELEMENT, () -> x.placedFeast(1, 1));
    }

    @Says(in = "Description", value = "The day of a feast by the rule 2 can be outside a calendar.")
    static void daysAfterOutside() {
        CalendarConverter x = with(PLAIN);
        x.addFeast(0, 0, 1, 1, 30, 0);
        x.addFeast(2, 0, 0, 1, 0, 0);
        x.addFeast(0, 0, 1, 1, 1, 0);
        x.addFeast(2, 0, 2, -1, 0, 0);
        x.addFeast(0, 0, 0, 12, 31, 0);
        x.addFeast(2, 0, 4, 400, 0, 0);
        is(60000, () -> x.feast(1, 2000));
        is(-60031, () -> x.feast(3, -2000));
        is(730884, () -> x.feast(5, 2000));
        is(ELEMENT, () -> x.date(1, 60000, 0));
    }

    @Says(in = "Description", value = "The method feastOn is about the feasts of this year alone.")
    static void feastsOfThisYear() {
        CalendarConverter x = with(PLAIN);
        x.addFeast(0, 9, 0, 12, 31, 0);
        x.addFeast(2, 5, 0, 1, 0, 0);
        x.addFeast(0, 0, 0, 1, 1, 0);
        is(1, () -> x.feastOn(1, 365));
        is(2, () -> x.feastOn(2, 365));
        is(0, () -> x.feastOn(1, 364));
        is(ELEMENT, () -> x.feastOn(2, 364));
        is(2, () -> x.feastOn(1, 0));
        is(1, () -> x.feastOn(0, 0));
        is(365, () -> x.placedFeast(2, 2));
    }

    @Says(in = "Description", value = "Readings, text and output stay as they are when changes are taken back or restored.")
    static void whatStays() {
        CalendarConverter x = with(PLAIN);
        x.readings(1, 1, 1);
        x.write(1, 0);
        write(x, "m30;e");
        x.save();
        is(0, x::undo);
        is(1, x::calendarCount);
        is("1.1.1", () -> output(x));
        is(1, x::differentDays);
        is(1, () -> x.reading(5, 0));
        is(2, x::restore);
        is("1.1.1", () -> output(x));
        is(1, x::differentDays);
        is(1, () -> x.reading(5, 0));
        is(6, () -> x.appendCharacter('7'));
        is(1, () -> x.setCalendar(1));
        is(7, () -> x.firstDay(1, 1));
    }

    @Says(in = "Description", value = "The weeks of the years -2001 and 2001 are counted like others.")
    static void weeksOutside() {
        CalendarConverter x = with("m30;e0;w7,3,7", "m30;e0;w7,3,1");
        are(x, (y, day) -> y.week(1, day, 0), -60030, -2001, -60029, -2001, -60028, -2000, 59999, 2000);
        are(x, (y, day) -> y.week(1, day, 1), -60030, 4, -60029, 4, -60028, 1, 59999, 4);
        are(x, (y, day) -> y.week(2, day, 0), -60030, -2000, 59993, 2000, 59994, 2001, 59999, 2001);
        are(x, (y, day) -> y.week(2, day, 1), -60030, 1, 59993, 4, 59994, 1, 59999, 1);
        are(x, (y, year) -> y.weeks(1, year), -2000, 4, 2000, 4);
        are(x, (y, year) -> y.weeks(2, year), -2000, 5, 2000, 4);
        refusedFor(ARGUMENT, settled("m30;e0;w7,3,7"), (y, year) -> y.weeks(1, year), -2001, 2001);
    }
}
