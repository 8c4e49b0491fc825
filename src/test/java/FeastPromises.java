/** The sentences of the promises 22 to 28. */
final class FeastPromises extends Boundary {
    private static final int[] NO_YEARS = {-2001, 2001, LEAST, GREATEST};
    /** Calendars 0 and 1; the feasts 0 and 1 on the first day of the year in calendar 0. */
    private static final Make TWO = settled(PLAIN);

    private FeastPromises() {
    }

    private static CalendarConverter two() {
        return TWO.made();
    }

    private static CalendarConverter eight() {
        CalendarConverter x = with(PLAIN);
        for (int i = 0; i < 8; i++) {
            x.addFeast(0, 0, 0, 1, i + 1, 0);
        }
        return x;
    }

    @Says(in = "22", value = {"Adds a feast.", "Returns the number of the feast."})
    static void p22Adds() {
        CalendarConverter x = new CalendarConverter();
        for (int i = 0; i < 8; i++) {
            int number = i;
            is(number, () -> x.addFeast(0, 0, 0, 1, 31 - number, 0));
            is(30 - number, () -> x.feast(number, 1));
            is(number + 1, x::feastCount);
        }
    }

    @Says(in = "22", value = "- `rule`: the rule, 0 to 4")
    static void p22Rule() {
        is(2, () -> two().addFeast(0, 0, 0, 1, 1, 0));
        is(2, () -> two().addFeast(1, 0, 0, 1, 1, 0));
        is(2, () -> two().addFeast(2, 0, 0, 1, 0, 0));
        is(2, () -> two().addFeast(3, 0, 0, 1, 1, 0));
        is(2, () -> two().addFeast(4, 0, 0, 1, 1, 0));
        refusedFor(ARGUMENT, TWO, (x, rule) -> x.addFeast(rule, 0, 0, 1, 1, 0), -1, 5, LEAST, GREATEST);
        refusedFor(ARGUMENT, TWO, (x, rule) -> x.addFeast(rule, 0, 0, 1, 0, 0), -1, 5, LEAST, GREATEST);
    }

    @Says(in = "22", value = "- `rank`: the rank, 0 to 9")
    static void p22Rank() {
        for (int rank = 0; rank <= 9; rank++) {
            int r = rank;
            is(2, () -> two().addFeast(0, r, 0, 1, 1, 0));
        }
        refusedFor(ARGUMENT, TWO, (x, rank) -> x.addFeast(0, rank, 0, 1, 1, 0), -1, 10, LEAST, GREATEST);
        refusedFor(ARGUMENT, TWO, (x, rank) -> x.addFeast(2, rank, 0, 1, 0, 0), -1, 10);
    }

    @Says(in = "22", value = "- `which`: the calendar by the rules 0 and 1, or the earlier feast by the other ones")
    static void p22Which() {
        for (int rule = 0; rule <= 4; rule++) {
            int r = rule;
            int b = rule == 2 ? 0 : 1;
            is(2, () -> two().addFeast(r, 0, 0, 1, b, 0));
            is(2, () -> two().addFeast(r, 0, 1, 1, b, 0));
            refusedFor(ARGUMENT, TWO, (x, which) -> x.addFeast(r, 0, which, 1, b, 0), -1, 2, 3, LEAST, GREATEST);
        }
        Make three = () -> {
            CalendarConverter x = with(PLAIN, PLAIN);
            x.addFeast(0, 0, 2, 1, 1, 0);
            return x;
        };
        is(1, () -> three.made().addFeast(0, 0, 2, 1, 1, 0));
        refused(ARGUMENT, three, x -> x.addFeast(0, 0, 3, 1, 1, 0), x -> x.addFeast(2, 0, 1, 1, 0, 0), x -> x.addFeast(3, 0, 2, 1, 1, 0));
    }

    @Says(in = "22", value = "- `a`: by the rules 0 and 1 the month, 1 to 15; by the rule 2 the number of days; by the rules 3 and 4 the calendar")
    static void p22A() {
        for (int rule = 0; rule <= 1; rule++) {
            int r = rule;
            are(two(), (x, month) -> x.addFeast(r, 0, 0, month, 1, 0), 1, 2, 15, 3);
            refusedFor(ARGUMENT, TWO, (x, month) -> x.addFeast(r, 0, 0, month, 1, 0), 0, 16, -1, LEAST, GREATEST);
        }
        are(two(), (x, days) -> x.addFeast(2, 0, 0, days, 0, 0), -400, 2, 400, 3, 0, 4);
        refusedFor(ARGUMENT, TWO, (x, days) -> x.addFeast(2, 0, 0, days, 0, 0), -401, 401, LEAST, GREATEST);
        for (int rule = 3; rule <= 4; rule++) {
            int r = rule;
            are(two(), (x, calendar) -> x.addFeast(r, 0, 0, calendar, 1, 0), 0, 2, 1, 3);
            refusedFor(ARGUMENT, TWO, (x, calendar) -> x.addFeast(r, 0, 0, calendar, 1, 0), -1, 2, 5, LEAST, GREATEST);
        }
    }

    @Says(in = "22", value = "- `b`: by the rule 0 the day of the month, 1 to 60; by the rule 1 the number, 1 to 5 or -1; "
        + "by the rule 3 the weekday, 0 to 9; by the rule 4 the day of the month, 1 to 60; by the rule 2 it has to be 0")
    static void p22B() {
        are(two(), (x, day) -> x.addFeast(0, 0, 0, 1, day, 0), 1, 2, 60, 3);
        refusedFor(ARGUMENT, TWO, (x, day) -> x.addFeast(0, 0, 0, 1, day, 0), 0, 61, -1, LEAST, GREATEST);
        are(two(), (x, number) -> x.addFeast(1, 0, 0, 1, number, 0), 1, 2, 2, 3, 3, 4, 4, 5, 5, 6, -1, 7);
        refusedFor(ARGUMENT, TWO, (x, number) -> x.addFeast(1, 0, 0, 1, number, 0), 0, 6, -2, LEAST, GREATEST);
        are(two(), (x, weekday) -> x.addFeast(3, 0, 0, 0, weekday, 0), 0, 2, 9, 3);
        refusedFor(ARGUMENT, TWO, (x, weekday) -> x.addFeast(3, 0, 0, 0, weekday, 0), -1, 10, LEAST, GREATEST);
        are(two(), (x, day) -> x.addFeast(4, 0, 0, 0, day, 0), 1, 2, 60, 3);
        refusedFor(ARGUMENT, TWO, (x, day) -> x.addFeast(4, 0, 0, 0, day, 0), 0, 61, -1, LEAST, GREATEST);
        are(two(), (x, nothing) -> x.addFeast(2, 0, 0, 0, nothing, 0), 0, 2);
        refusedFor(ARGUMENT, TWO, (x, nothing) -> x.addFeast(2, 0, 0, 0, nothing, 0), 1, -1, LEAST, GREATEST);
    }

    @Says(in = "22", value = "- `c`: by the rule 1 the weekday, 0 to 9; by the others it has to be 0")
    static void p22C() {
        are(two(), (x, weekday) -> x.addFeast(1, 0, 0, 1, 1, weekday), 0, 2, 9, 3);
        refusedFor(ARGUMENT, TWO, (x, weekday) -> x.addFeast(1, 0, 0, 1, 1, weekday), -1, 10, LEAST, GREATEST);
        for (int rule : new int[] {0, 2, 3, 4}) {
            int b = rule == 2 ? 0 : 1;
            are(two(), (x, nothing) -> x.addFeast(rule, 0, 0, 1, b, nothing), 0, 2);
            refusedFor(ARGUMENT, TWO, (x, nothing) -> x.addFeast(rule, 0, 0, 1, b, nothing), 1, -1, LEAST, GREATEST);
        }
    }

    @Says(in = "22", value = "Throws `IllegalArgumentException` if a number is out of range, or there is no such calendar or earlier feast")
    static void p22Argument() {
        refused(ARGUMENT, TWO, x -> x.addFeast(5, 0, 0, 1, 1, 0), x -> x.addFeast(0, 10, 0, 1, 1, 0), x -> x.addFeast(0, 0, 2, 1, 1, 0),
            x -> x.addFeast(0, 0, 0, 16, 1, 0), x -> x.addFeast(0, 0, 0, 1, 61, 0), x -> x.addFeast(0, 0, 0, 1, 1, 1),
            x -> x.addFeast(2, 0, 2, 1, 0, 0), x -> x.addFeast(3, 0, 0, 2, 1, 0), x -> x.addFeast(4, 0, 0, 2, 1, 0));
        refused(ARGUMENT, CalendarConverter::new, x -> x.addFeast(2, 0, 0, 1, 0, 0), x -> x.addFeast(3, 0, 0, 0, 1, 0),
            x -> x.addFeast(4, 0, 0, 0, 1, 0), x -> x.addFeast(0, 0, 1, 1, 1, 0));
        refused(ARGUMENT, FeastPromises::eight, x -> x.addFeast(0, 10, 0, 1, 1, 0), x -> x.addFeast(2, 0, 8, 1, 0, 0));
    }

    @Says(in = "22", value = "Throws `IllegalStateException` if there are 8 feasts")
    static void p22State() {
        refused(STATE, FeastPromises::eight, x -> x.addFeast(0, 0, 0, 1, 1, 0), x -> x.addFeast(1, 9, 1, 15, -1, 9),
            x -> x.addFeast(2, 0, 7, 1, 0, 0), x -> x.addFeast(3, 0, 7, 1, 0, 0), x -> x.addFeast(4, 0, 0, 0, 60, 0));
        CalendarConverter x = eight();
        is(7, x::removeFeast);
        is(7, () -> x.addFeast(2, 0, 6, 1, 0, 0));
        is(STATE, () -> x.addFeast(2, 0, 6, 1, 0, 0));
    }

    @Says(in = "23", value = {"Removes the last feast.", "Returns the number of feasts that remain."})
    static void p23Removes() {
        CalendarConverter x = eight();
        for (int left = 7; left >= 0; left--) {
            int count = left;
            is(count, () -> x.feast(count, 1));
            is(count, x::removeFeast);
            is(INDEX, () -> x.feast(count, 1));
            is(count, x::feastCount);
        }
    }

    @Says(in = "23", value = "Throws `IllegalStateException` if there are no feasts")
    static void p23State() {
        is(0, () -> {
            CalendarConverter x = new CalendarConverter();
            x.addFeast(0, 0, 0, 1, 1, 0);
            return x.removeFeast();
        });
        refused(STATE, CalendarConverter::new, CalendarConverter::removeFeast);
        Make none = () -> {
            CalendarConverter x = two();
            x.removeFeast();
            x.removeFeast();
            return x;
        };
        refused(STATE, none, CalendarConverter::removeFeast);
    }

    @Says(in = "24", value = {"Returns the number of feasts.", "Returns 0 to 8."})
    static void p24Count() {
        CalendarConverter x = new CalendarConverter();
        is(0, x::feastCount);
        for (int count = 1; count <= 8; count++) {
            x.addFeast(0, 0, 0, 1, 1, 0);
            is(count, x::feastCount);
        }
        is(STATE, () -> x.addFeast(0, 0, 0, 1, 1, 0));
        is(8, x::feastCount);
        x.undo();
        is(7, x::feastCount);
        x.removeFeast();
        is(6, x::feastCount);
    }

    @Says(in = "25", value = {"Returns the day of a feast in a year.", "Returns the day."})
    static void p25Day() {
        CalendarConverter x = with(PLAIN);
        x.addFeast(0, 0, 0, 12, 25, 0);
        x.addFeast(1, 0, 0, 5, -1, 0);
        x.addFeast(2, 0, 0, 1, 0, 0);
        x.addFeast(3, 0, 0, 0, 0, 0);
        x.addFeast(4, 0, 0, 1, 30, 0);
        are(x, (y, feast) -> y.feast(feast, 1), 0, 358, 1, 147, 2, 359, 3, 364, 4, 359);
        are(x, (y, feast) -> y.feast(feast, 2), 0, 723, 1, 511, 2, 724, 3, 728, 4, 749);
    }

    @Says(in = "25", value = "- `year`: the year, -2000 to 2000")
    static void p25Year() {
        are(two(), (x, year) -> x.feast(0, year), -2000, -730851, -1, -731, 0, -366, 1, 0, 2000, 730119);
    }

    @Says(in = "25", value = {"- `feast`: the number of the feast", "Throws `IndexOutOfBoundsException` if there is no such feast"})
    static void p25Index() {
        are(eight(), (x, feast) -> x.feast(feast, 1), 0, 0, 3, 3, 7, 7);
        refusedFor(INDEX, TWO, (x, feast) -> x.feast(feast, 1), -1, 2, 7, 8, LEAST, GREATEST);
        refusedFor(INDEX, CalendarConverter::new, (x, feast) -> x.feast(feast, 1), 0);
        refusedFor(INDEX, FeastPromises::eight, (x, feast) -> x.feast(feast, 1), 8, -1);
    }

    @Says(in = "25", value = "Throws `IllegalArgumentException` if the year is out of range")
    static void p25Argument() {
        refusedFor(ARGUMENT, TWO, (x, year) -> x.feast(0, year), NO_YEARS);
    }

    /** The feast 0 is on the fifth weekday 1 of February: in 2000, but not in 1999. */
    private static CalendarConverter leapDay() {
        CalendarConverter x = with(PLAIN);
        x.addFeast(1, 5, 0, 2, 5, 1);
        x.addFeast(2, 9, 0, 0, 0, 0);
        x.addFeast(0, 9, 0, 2, 28, 0);
        return x;
    }

    @Says(in = "25", value = "Throws `NoSuchElementException` if it has no day in this year")
    static void p25Element() {
        is(730178, () -> leapDay().feast(0, 2000));
        is(730178, () -> leapDay().feast(1, 2000));
        refusedFor(ELEMENT, FeastPromises::leapDay, (x, feast) -> x.feast(feast, 1999), 0, 1);
        refusedFor(ELEMENT, FeastPromises::leapDay, (x, year) -> x.feast(0, year), 1996, -1996, 1);
    }

    @Says(in = "26", value = "Returns the day on which a feast is placed in a year; it can be greater than 999999.")
    static void p26Placed() {
        CalendarConverter x = with(LATE);
        for (int rank = 0; rank < 8; rank++) {
            x.addFeast(0, rank, 1, 1, 8, 0);
        }
        are(x, (y, feast) -> y.placedFeast(feast, 1993), 7, 999999, 6, 1000000, 5, 1000001, 0, 1000006);
        are(x, (y, feast) -> y.feast(feast, 1993), 7, 999999, 0, 999999);
        is(7, () -> x.feastOn(1993, 999999));
    }

    @Says(in = "26", value = {"- `year`: the year, -2000 to 2000", "Returns the day."})
    static void p26Year() {
        are(two(), (x, year) -> x.placedFeast(0, year), -2000, -730850, -1, -730, 0, -365, 1, 1, 2000, 730120);
        are(two(), (x, year) -> x.placedFeast(1, year), -2000, -730851, 2000, 730119);
    }

    @Says(in = "26", value = {"- `feast`: the number of the feast", "Throws `IndexOutOfBoundsException` if there is no such feast"})
    static void p26Index() {
        are(eight(), (x, feast) -> x.placedFeast(feast, 1), 0, 0, 7, 7);
        refusedFor(INDEX, TWO, (x, feast) -> x.placedFeast(feast, 1), -1, 2, 7, 8, LEAST, GREATEST);
        refusedFor(INDEX, CalendarConverter::new, (x, feast) -> x.placedFeast(feast, 1), 0);
    }

    @Says(in = "26", value = "Throws `IllegalArgumentException` if the year is out of range")
    static void p26Argument() {
        refusedFor(ARGUMENT, TWO, (x, year) -> x.placedFeast(0, year), NO_YEARS);
    }

    @Says(in = "26", value = "Throws `NoSuchElementException` if it has no day in this year")
    static void p26Element() {
        is(730179, () -> leapDay().placedFeast(0, 2000));
        is(730178, () -> leapDay().placedFeast(1, 2000));
        refusedFor(ELEMENT, FeastPromises::leapDay, (x, feast) -> x.placedFeast(feast, 1999), 0, 1);
        refusedFor(ELEMENT, FeastPromises::leapDay, (x, year) -> x.placedFeast(0, year), 1996, -1996);
    }

    @Says(in = "27", value = {"Returns the feast that is placed on a day in a year.", "Returns the feast."})
    static void p27Feast() {
        are(two(), (x, day) -> x.feastOn(1, day), 0, 1, 1, 0);
        are(eight(), (x, day) -> x.feastOn(1, day), 0, 0, 3, 3, 7, 7);
    }

    @Says(in = "27", value = "- `year`: the year, -2000 to 2000")
    static void p27Year() {
        is(1, () -> two().feastOn(-2000, -730851));
        is(0, () -> two().feastOn(-2000, -730850));
        is(1, () -> two().feastOn(2000, 730119));
        is(0, () -> two().feastOn(2000, 730120));
    }

    private static CalendarConverter farFeasts() {
        CalendarConverter x = with(LATE, EARLY);
        x.addFeast(0, 5, 1, 1, 8, 0);
        x.addFeast(0, 5, 2, 5, 5, 0);
        x.addFeast(0, 3, 1, 1, 8, 0);
        return x;
    }

    @Says(in = "27", value = "- `day`: the day, -999999 to 999999")
    static void p27Day() {
        is(0, () -> farFeasts().feastOn(1993, 999999));
        is(1, () -> farFeasts().feastOn(-1992, -999999));
        is(1000000, () -> farFeasts().placedFeast(2, 1993));
    }

    @Says(in = "27", value = "Throws `IllegalArgumentException` if the year or the day is out of range")
    static void p27Argument() {
        refusedFor(ARGUMENT, TWO, (x, year) -> x.feastOn(year, 0), NO_YEARS);
        refusedFor(ARGUMENT, TWO, (x, day) -> x.feastOn(1, day), -1000000, 1000000, LEAST, GREATEST);
        refusedFor(ARGUMENT, FeastPromises::farFeasts, (x, day) -> x.feastOn(1993, day), 1000000);
        refusedFor(ARGUMENT, FeastPromises::leapDay, (x, day) -> x.feastOn(1999, day), LEAST, LEAST + 1, GREATEST);
    }

    @Says(in = "27", value = "Throws `NoSuchElementException` if there is none")
    static void p27Element() {
        refusedFor(ELEMENT, TWO, (x, day) -> x.feastOn(1, day), -1, 2, -999999, 999999);
        refused(ELEMENT, CalendarConverter::new, x -> x.feastOn(1, 0), x -> x.feastOn(1, -999999));
        refused(ELEMENT, TWO, x -> x.feastOn(2, 0), x -> x.feastOn(0, 0));
        refused(ELEMENT, FeastPromises::leapDay, x -> x.feastOn(1999, 730178), x -> x.feastOn(2000, 730180));
    }

    /** The feasts 0 and 1 meet in the year 200 alone, 2 has never a day, 3 and 4 meet in each year. */
    private static CalendarConverter meeting() {
        CalendarConverter x = with(PLAIN, "m31;e-199");
        x.addFeast(0, 0, 1, 1, 1, 0);
        x.addFeast(0, 1, 2, 1, 1, 0);
        x.addFeast(1, 0, 1, 1, 1, 9);
        x.addFeast(0, 3, 0, 2, 28, 0);
        x.addFeast(2, 4, 3, 0, 0, 0);
        return x;
    }

    @Says(in = "28", value = {"Returns the first year, of the 200 years from a year on, in which two feasts have the same day "
        + "before they are placed.", "Returns the year."})
    static void p28First() {
        are(meeting(), (x, from) -> x.meetingYear(0, 1, from), 1, 200, 2, 200, 199, 200, 200, 200);
        are(meeting(), (x, from) -> x.meetingYear(3, 4, from), 1, 1, 7, 7);
        refusedFor(ELEMENT, FeastPromises::meeting, (x, from) -> x.meetingYear(0, 1, from), 0, 201, -2000, 1801);
    }

    @Says(in = "28", value = {"- `feast`: the number of the feast", "- `other`: the other feast"})
    static void p28Feasts() {
        are(meeting(), (x, other) -> x.meetingYear(0, other, 1), 1, 200);
        are(meeting(), (x, feast) -> x.meetingYear(feast, 0, 1), 1, 200);
        are(meeting(), (x, other) -> x.meetingYear(3, other, 1), 4, 1);
        are(meeting(), (x, feast) -> x.meetingYear(feast, 3, 1), 4, 1);
    }

    @Says(in = "28", value = "- `from`: the year, -2000 to 1801")
    static void p28From() {
        are(meeting(), (x, from) -> x.meetingYear(3, 4, from), -2000, -2000, 1801, 1801);
        CalendarConverter x = with(PLAIN, "m31;e-1999");
        x.addFeast(0, 0, 1, 1, 1, 0);
        x.addFeast(0, 1, 2, 1, 1, 0);
        are(x, (y, from) -> y.meetingYear(0, 1, from), 1801, 2000);
    }

    @Says(in = "28", value = "Throws `IndexOutOfBoundsException` if there is no such feast")
    static void p28Index() {
        refusedFor(INDEX, TWO, (x, feast) -> x.meetingYear(feast, 0, 1), -1, 2, 8, LEAST, GREATEST);
        refusedFor(INDEX, TWO, (x, other) -> x.meetingYear(0, other, 1), -1, 2, 8, LEAST, GREATEST);
        refusedFor(INDEX, TWO, (x, both) -> x.meetingYear(both, both, 1), -1, 2, LEAST, GREATEST);
    }

    @Says(in = "28", value = "Throws `IllegalArgumentException` if both are the same, or the year is out of range")
    static void p28Argument() {
        refusedFor(ARGUMENT, TWO, (x, both) -> x.meetingYear(both, both, 1), 0, 1);
        refusedFor(ARGUMENT, TWO, (x, from) -> x.meetingYear(0, 1, from), -2001, 1802, 2000, LEAST, GREATEST);
    }

    @Says(in = "28", value = "Throws `NoSuchElementException` if there is no such year")
    static void p28Element() {
        refused(ELEMENT, FeastPromises::meeting, x -> x.meetingYear(0, 1, 201), x -> x.meetingYear(0, 2, 1), x -> x.meetingYear(2, 0, 1),
            x -> x.meetingYear(0, 3, 1801), x -> x.meetingYear(0, 1, 0));
        Make never = () -> {
            CalendarConverter x = meeting();
            x.addFeast(1, 5, 1, 1, 1, 9);
            return x;
        };
        refused(ELEMENT, never, x -> x.meetingYear(2, 5, 1));
    }
}
