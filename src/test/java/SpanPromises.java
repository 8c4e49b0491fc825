/** The sentences of the promises 19 to 21. */
final class SpanPromises extends Boundary {
    private static final int[] NO_CALENDARS = {-1, 3, 6, LEAST, GREATEST};
    private static final int[] NO_DAYS = {-1000000, 1000000, LEAST, GREATEST};
    private static final Make THREE = settled(PLAIN, MIDDLE);
    private static final Make FAR = settled(LATE, EARLY);

    private SpanPromises() {
    }

    private static CalendarConverter three() {
        return with(PLAIN, MIDDLE);
    }

    private static CalendarConverter far() {
        return with(LATE, EARLY);
    }

    @Says(in = "19", value = {"Returns the day some months after a day: with the same day of the month, "
        + "or the last one if there are not so many.", "Returns the day."})
    static void p19Plus() {
        CalendarConverter x = three();
        are(x, (y, months) -> y.plus(0, 27, months), 1, 58, 2, 86, -1, -4);
        are(x, (y, months) -> y.plus(0, 28, months), 1, 58, 2, 87, -1, -3);
        are(x, (y, months) -> y.plus(0, 30, months), 0, 30, 1, 58, 2, 89, 3, 119, 4, 150, 11, 364, 12, 395, 37, 1154);
        are(x, (y, months) -> y.plus(1, 29, months), 1, 59, -1, -1, 3, 119);
    }

    @Says(in = "19", value = "Months are counted one by one, intercalary ones too; the day of the month is that of the first day.")
    static void p19Months() {
        CalendarConverter x = three();
        are(x, (y, months) -> y.plus(2, 9, months), 1, 16, 2, 26, 3, 46, 4, 56, 5, 76, 6, 83, -1, -11, -2, -21, -3, -41, -4, -51);
        are(x, (y, months) -> y.plus(2, 36, months), 1, 46, 2, 66, 3, 76, -1, 16, -2, 9, -3, -1);
        are(x, (y, months) -> y.plus(2, 16, months), 1, 23, -1, 6, 5, 83);
        are(x, (y, months) -> y.plus(0, 30, months), 1, 58, 2, 89);
    }

    @Says(in = "19", value = "- `day`: the day, -999999 to 999999")
    static void p19Day() {
        is(999988, () -> far().plus(1, 999999, -1));
        is(-999988, () -> far().plus(2, -999999, 1));
        is(999999, () -> far().plus(1, 999999, 0));
        is(-999999, () -> far().plus(2, -999999, 0));
    }

    @Says(in = "19", value = "- `months`: the number of months, -9999 to 9999")
    static void p19Number() {
        CalendarConverter x = with("m3,3,3,3,3,3,3,3,3,3,3,3,3,3;e0");
        are(x, (y, months) -> y.plus(1, 0, months), 9999, 29997, -9999, -29997);
        are(x, (y, months) -> y.plus(1, 2, months), 9999, 29999, -9999, -29995);
        is(833 * 365 + 202 + 90, () -> x.plus(0, 0, 9999));
        is(-834 * 365 - 203 + 273, () -> x.plus(0, 0, -9999));
    }

    @Says(in = "19", value = {"- `calendar`: the number of the calendar", "Throws `IndexOutOfBoundsException` if there is no such calendar"})
    static void p19Index() {
        are(three(), (y, calendar) -> y.plus(calendar, 0, 1), 0, 31, 1, 30, 2, 10);
        refusedFor(INDEX, THREE, (x, calendar) -> x.plus(calendar, 0, 0), NO_CALENDARS);
    }

    @Says(in = "19", value = "Throws `IllegalArgumentException` if the day or the number is out of range")
    static void p19Argument() {
        refusedFor(ARGUMENT, FAR, (x, day) -> x.plus(1, day, 0), NO_DAYS);
        refusedFor(ARGUMENT, FAR, (x, day) -> x.plus(2, day, 0), NO_DAYS);
        refusedFor(ARGUMENT, THREE, (x, months) -> x.plus(0, 0, months), -10000, 10000, LEAST, GREATEST);
    }

    @Says(in = "19", value = "Throws `NoSuchElementException` if the day is outside the calendar")
    static void p19Outside() {
        are(three(), (y, day) -> y.plus(1, day, 0), -60030, -60030, 59999, 59999);
        refusedFor(ELEMENT, THREE, (x, day) -> x.plus(1, day, 0), -60031, 60000, -999999, 999999);
        refused(ELEMENT, THREE, x -> x.plus(1, -60031, 1), x -> x.plus(1, 60000, -1));
        refusedFor(ELEMENT, THREE, (x, months) -> x.plus(0, 730485, months), 0, -1, 1, -9999, 9999);
        refusedFor(ELEMENT, THREE, (x, months) -> x.plus(0, -730852, months), 0, -1, 1, -9999, 9999);
        refusedFor(ELEMENT, THREE, (x, months) -> x.plus(2, 999999, months), 0, -1, 1, -9999, 9999);
        are(with("m30,30;e0"), (y, day) -> y.plus(1, day, 0), -120060, -120060, 119999, 119999);
        refusedFor(ELEMENT, settled("m30,30;e0"), (x, months) -> x.plus(1, 120000, months), 0, -1, 1, -9999, 9999);
        refusedFor(ELEMENT, settled("m30,30;e0"), (x, months) -> x.plus(1, -120061, months), 0, -1, 1, -9999, 9999);
    }

    @Says(in = "19", value = "or the other day would be, or would not be from -999999 to 999999")
    static void p19OtherDay() {
        is(59999, () -> three().plus(1, 59969, 1));
        is(-60001, () -> three().plus(1, -59971, -1));
        is(59999, () -> three().plus(1, -60001, 4000));
        refused(ELEMENT, THREE, x -> x.plus(1, 59970, 1), x -> x.plus(1, 59999, 1), x -> x.plus(1, -60001, -1),
            x -> x.plus(1, -60030, -1), x -> x.plus(1, -60001, 4001), x -> x.plus(1, 59999, -9999), x -> x.plus(1, -60030, 9999));
        is(999999, () -> far().plus(1, 999988, 1));
        is(-999999, () -> far().plus(2, -999988, -1));
        refused(ELEMENT, FAR, x -> x.plus(1, 999989, 1), x -> x.plus(2, -999989, -1));
    }

    @Says(in = "20", value = {"Returns the day some years after a day: in the month with the same number, or the last one if there are "
        + "not so many, with the same day of the month, or the last one if there are not so many.", "Returns the day."})
    static void p20PlusYears() {
        CalendarConverter x = three();
        are(x, (y, years) -> y.plusYears(0, 1154, years), 0, 1154, 1, 1519, 4, 2615, -1, 788, -4, -307);
        are(x, (y, years) -> y.plusYears(2, 36, years), 1, 66, 2, 103, -1, -1);
        are(x, (y, years) -> y.plusYears(2, 17, years), 1, 47, 2, 84, -1, -20);
        are(x, (y, years) -> y.plusYears(2, 16, years), 1, 53, 2, 83);
        are(x, (y, years) -> y.plusYears(2, 66, years), 1, 83, 2, 133, -1, 16);
        are(x, (y, years) -> y.plusYears(2, 9, years), 1, 46, -1, -21);
    }

    @Says(in = "20", value = "- `day`: the day, -999999 to 999999")
    static void p20Day() {
        is(999748, () -> far().plusYears(1, 999999, -1));
        is(-999748, () -> far().plusYears(2, -999999, 1));
        is(999999, () -> far().plusYears(1, 999999, 0));
        is(-999999, () -> far().plusYears(2, -999999, 0));
    }

    @Says(in = "20", value = "- `years`: the number of years, -4000 to 4000")
    static void p20Number() {
        is(59999, () -> three().plusYears(1, -60001, 4000));
        is(-60001, () -> three().plusYears(1, 59999, -4000));
        is(730484, () -> three().plusYears(0, -730486, 4000));
    }

    @Says(in = "20", value = {"- `calendar`: the number of the calendar", "Throws `IndexOutOfBoundsException` if there is no such calendar"})
    static void p20Index() {
        are(three(), (y, calendar) -> y.plusYears(calendar, 0, 1), 0, 365, 1, 30, 2, 37);
        refusedFor(INDEX, THREE, (x, calendar) -> x.plusYears(calendar, 0, 0), NO_CALENDARS);
    }

    @Says(in = "20", value = "Throws `IllegalArgumentException` if the day or the number is out of range")
    static void p20Argument() {
        refusedFor(ARGUMENT, FAR, (x, day) -> x.plusYears(1, day, 0), NO_DAYS);
        refusedFor(ARGUMENT, FAR, (x, day) -> x.plusYears(2, day, 0), NO_DAYS);
        refusedFor(ARGUMENT, THREE, (x, years) -> x.plusYears(1, -60001, years), 4001, -4001, LEAST, GREATEST);
        refusedFor(ARGUMENT, THREE, (x, years) -> x.plusYears(1, 59999, years), 4001, -4001, LEAST, GREATEST);
    }

    @Says(in = "20", value = "Throws `NoSuchElementException` if the day is outside the calendar")
    static void p20Outside() {
        are(three(), (y, day) -> y.plusYears(1, day, 0), -60030, -60030, 59999, 59999);
        refusedFor(ELEMENT, THREE, (x, day) -> x.plusYears(1, day, 0), -60031, 60000, -999999, 999999);
        refused(ELEMENT, THREE, x -> x.plusYears(1, -60031, 1), x -> x.plusYears(1, 60000, -1));
        refusedFor(ELEMENT, THREE, (x, years) -> x.plusYears(0, 730485, years), 0, -1, 1, -4000, 4000);
        refusedFor(ELEMENT, THREE, (x, years) -> x.plusYears(0, -730852, years), 0, -1, 1, -4000, 4000);
    }

    @Says(in = "20", value = "or the other day would be, or would not be from -999999 to 999999")
    static void p20OtherDay() {
        is(59999, () -> three().plusYears(1, 59969, 1));
        is(-60001, () -> three().plusYears(1, -59971, -1));
        refused(ELEMENT, THREE, x -> x.plusYears(1, 59970, 1), x -> x.plusYears(1, -60001, -1), x -> x.plusYears(1, 0, 2000),
            x -> x.plusYears(1, 0, -2002), x -> x.plusYears(1, 0, 4000), x -> x.plusYears(1, 0, -4000));
        are(three(), (y, years) -> y.plusYears(1, 0, years), 1999, 59970, -2001, -60030);
        is(999999, () -> far().plusYears(1, 999748, 1));
        is(-999999, () -> far().plusYears(2, -999748, -1));
        refused(ELEMENT, FAR, x -> x.plusYears(1, 999749, 1), x -> x.plusYears(2, -999749, -1));
    }

    private static void spans(CalendarConverter x, int calendar, int from, int to, int years, int months, int days) {
        are(x, (y, part) -> y.span(calendar, from, to, part), 0, years, 1, months, 2, days);
    }

    @Says(in = "21", value = {"the greatest number of years, 0 or more, for which plusYears of the first day is there "
        + "and not after the other day", "Returns the number."})
    static void p21Years() {
        CalendarConverter x = three();
        spans(x, 0, 0, 364, 0, 11, 30);
        spans(x, 0, 0, 365, 1, 0, 0);
        spans(x, 0, 1154, 1518, 0, 11, 29);
        spans(x, 0, 1154, 1519, 1, 0, 0);
        spans(x, 0, 1154, 2614, 3, 12, 0);
        spans(x, 0, 1154, 2615, 4, 0, 0);
        spans(x, 0, 1519, 2614, 3, 0, 0);
        spans(x, 0, 1519, 2613, 2, 11, 30);
        spans(x, 0, -1, 0, 0, 0, 1);
        spans(x, 1, -60030, 59999, 4000, 0, 29);
        spans(x, 1, -60029, 59970, 3999, 0, 29);
        spans(x, 2, 36, 66, 1, 0, 0);
        spans(x, 2, 36, 65, 0, 1, 19);
    }

    @Says(in = "21", value = "is there and not after the other day; then")
    static void p21YearsNotThere() {
        spans(far(), 1, 999748, 999999, 1, 0, 0);
        spans(far(), 1, 999749, 999999, 0, 4, 10);
        spans(three(), 1, 59970, 59999, 0, 0, 29);
        spans(three(), 1, 59969, 59999, 1, 0, 0);
    }

    @Says(in = "21", value = "then the greatest number of months, 0 or more, for which plus of the day found is there and not after it")
    static void p21Months() {
        CalendarConverter x = three();
        spans(x, 0, 30, 57, 0, 0, 27);
        spans(x, 0, 30, 58, 0, 1, 0);
        spans(x, 0, 30, 88, 0, 1, 30);
        spans(x, 0, 30, 89, 0, 2, 0);
        spans(x, 0, 1154, 1519 + 27, 1, 0, 27);
        spans(x, 0, 1154, 1519 + 28, 1, 1, 0);
        spans(x, 2, 9, 15, 0, 0, 6);
        spans(x, 2, 9, 16, 0, 1, 0);
        spans(x, 2, 9, 45, 0, 2, 19);
        spans(x, 2, 9, 46, 1, 0, 0);
        spans(x, 2, 36, 46, 0, 1, 0);
        spans(x, 2, 47, 76, 0, 1, 9);
        spans(x, 2, 47, 83, 1, 0, 6);
    }

    @Says(in = "21", value = "for which plus of the day found is there")
    static void p21MonthsNotThere() {
        CalendarConverter x = far();
        spans(x, 1, 999989, 999999, 0, 0, 10);
        spans(x, 1, 999988, 999999, 0, 1, 0);
        spans(x, 0, 730454, 730484, 0, 0, 30);
        spans(x, 0, 730453, 730484, 0, 1, 1);
        spans(x, 0, 0, 730484, 1999, 11, 30);
    }

    @Says(in = "21", value = "then the days that are left")
    static void p21Days() {
        CalendarConverter x = three();
        spans(x, 0, 5, 5, 0, 0, 0);
        spans(x, 0, 5, 6, 0, 0, 1);
        spans(x, 0, 30, 500, 1, 3, 16);
        spans(x, 1, 0, 59, 1, 0, 29);
        spans(x, 2, 0, 36, 0, 2, 19);
    }

    @Says(in = "21", value = {"Returns a part of a span from a day to a later one", "- `from`: the first day, -999999 to 999999",
        "- `to`: the other day, from the first one to 999999"})
    static void p21Ends() {
        spans(far(), 2, -999999, -999999, 0, 0, 0);
        spans(far(), 2, -999999, -999748, 1, 0, 0);
        spans(far(), 1, 999999, 999999, 0, 0, 0);
        spans(far(), 1, 999998, 999999, 0, 0, 1);
    }

    @Says(in = "21", value = "- `part`: 0 for the years, 1 for the months, 2 for the days")
    static void p21Part() {
        spans(three(), 0, 0, 365 + 31 + 2, 1, 1, 2);
    }

    @Says(in = "21", value = {"- `calendar`: the number of the calendar", "Throws `IndexOutOfBoundsException` if there is no such calendar"})
    static void p21Index() {
        are(three(), (y, calendar) -> y.span(calendar, 0, 67, 0), 0, 0, 1, 2, 2, 2);
        refusedFor(INDEX, THREE, (x, calendar) -> x.span(calendar, 0, 0, 0), NO_CALENDARS);
    }

    @Says(in = "21", value = "Throws `IllegalArgumentException` if a day or the part is out of range")
    static void p21Argument() {
        refusedFor(ARGUMENT, FAR, (x, from) -> x.span(2, from, 1999, 0), -1000000, LEAST, 2000, GREATEST);
        refusedFor(ARGUMENT, FAR, (x, to) -> x.span(1, 0, to, 0), 1000000, GREATEST, -1, LEAST);
        refused(ARGUMENT, FAR, x -> x.span(1, 1000000, 1000000, 0), x -> x.span(1, 1000000, 1000001, 0),
            x -> x.span(2, -1000000, -1000000, 0), x -> x.span(1, 999999, 999998, 0), x -> x.span(2, -999998, -999999, 0));
        refusedFor(ARGUMENT, THREE, (x, part) -> x.span(0, 0, 1, part), -1, 3, LEAST, GREATEST);
    }

    @Says(in = "21", value = "Throws `NoSuchElementException` if one of the days is outside the calendar")
    static void p21Element() {
        spans(three(), 1, -60030, -60030, 0, 0, 0);
        spans(three(), 1, 59999, 59999, 0, 0, 0);
        refused(ELEMENT, THREE, x -> x.span(1, -60031, -60031, 0), x -> x.span(1, -60031, 0, 0), x -> x.span(1, 0, 60000, 0),
            x -> x.span(1, 60000, 60000, 0), x -> x.span(1, -60031, 60000, 2), x -> x.span(1, 0, 999999, 1),
            x -> x.span(1, -999999, 0, 2));
    }
}
