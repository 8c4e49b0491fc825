/** The sentences of the promises 29 to 39. */
final class OtherPromises extends Boundary {
    private static final int[] NO_CALENDARS = {-1, 3, 6, LEAST, GREATEST};
    private static final int[] NO_DAYS = {-1000000, 1000000, LEAST, GREATEST};
    private static final Make THREE = settled(PLAIN, MIDDLE);
    private static final Make FAR = settled(LATE, EARLY);

    private OtherPromises() {
    }

    private static CalendarConverter three() {
        return with(PLAIN, MIDDLE);
    }

    @Says(in = "29", value = "Looks for the readings of three numbers; they are kept until the next call of this method.")
    static void p29Kept() {
        CalendarConverter x = new CalendarConverter();
        is(3, () -> x.readings(1, 2, 3));
        set(x, 0, PLAIN);
        is(33, () -> x.reading(0, 2));
        is(3, x::differentDays);
        is(2, () -> x.readings(1, 1, 99));
        is(98 * 30, () -> x.reading(0, 2));
        is(INDEX, () -> x.reading(2, 2));
    }

    @Says(in = "29", value = {"- `first`: the first number", "- `second`: the second number", "- `third`: the third number"})
    static void p29Numbers() {
        CalendarConverter x = new CalendarConverter();
        is(3, () -> x.readings(12, 12, 12));
        is(1, () -> x.readings(31, 12, 2000));
        is(1, () -> x.readings(12, 31, -2000));
        is(1, () -> x.readings(-2000, 12, 31));
        is(0, () -> x.readings(2001, 12, 31));
        is(0, () -> x.readings(-2001, 12, 31));
        is(0, () -> x.readings(32, 12, 2000));
        is(0, () -> x.readings(31, 13, 2000));
        is(0, () -> x.readings(0, 12, 2000));
        is(0, () -> x.readings(31, 0, 2000));
        is(1, () -> x.readings(0, 1, 1));
        is(0, () -> x.readings(LEAST, LEAST, LEAST));
        is(0, () -> x.readings(GREATEST, GREATEST, GREATEST));
        is(0, () -> x.readings(1, 1, GREATEST));
        is(0, () -> x.readings(LEAST, 1, 1));
        is(0, () -> x.readings(1, LEAST, 1));
    }

    @Says(in = "29", value = "Returns the number of readings.")
    static void p29Count() {
        CalendarConverter x = new CalendarConverter();
        for (int calendars = 1; calendars <= 6; calendars++) {
            int count = calendars;
            is(3 * count, () -> x.readings(1, 1, 1));
            is(0, () -> x.readings(0, 0, 0));
            Due.answer(() -> set(x, count, PLAIN));
        }
    }

    @Says(in = "30", value = {"Returns a part of a reading that was found by the latest call of readings.", "Returns the part."})
    static void p30Reading() {
        CalendarConverter x = new CalendarConverter();
        x.readings(1, 2, 3);
        are(x, (y, index) -> y.reading(index, 2), 0, 33, 1, 731, 2, 761);
        x.readings(31, 12, 99);
        are(x, (y, index) -> y.reading(index, 2), 0, 36158);
        is(INDEX, () -> x.reading(1, 2));
    }

    @Says(in = "30", value = "- `index`: the index, from 0")
    static void p30Index() {
        CalendarConverter x = with(PLAIN, PLAIN, PLAIN, PLAIN, PLAIN);
        is(18, () -> x.readings(1, 1, 1));
        are(x, (y, index) -> y.reading(index, 0), 0, 0, 2, 0, 3, 1, 17, 5);
    }

    @Says(in = "30", value = "- `part`: 0 for the calendar, 1 for the order, 2 for the day")
    static void p30Part() {
        CalendarConverter x = with("m31;e-7");
        is(6, () -> x.readings(1, 1, 2));
        are(x, (y, part) -> y.reading(0, part), 0, 1, 1, 2, 2, -6);
        are(x, (y, part) -> y.reading(1, part), 0, 0, 1, 2, 2, 1);
        are(x, (y, part) -> y.reading(2, part), 0, 1, 1, 0, 2, 24);
        are(x, (y, part) -> y.reading(5, part), 0, 0, 1, 1, 2, 365);
    }

    @Says(in = "30", value = "Throws `IndexOutOfBoundsException` if there is no such reading")
    static void p30NoReading() {
        Make read = () -> {
            CalendarConverter x = settled(PLAIN).made();
            x.readings(31, 12, 99);
            return x;
        };
        is(36158, () -> read.made().reading(0, 2));
        refusedFor(INDEX, read, (x, index) -> x.reading(index, 0), -1, 1, 2, 18, LEAST, GREATEST);
        refusedFor(INDEX, CalendarConverter::new, (x, index) -> x.reading(index, 0), 0, -1);
        Make all = () -> {
            CalendarConverter x = with(PLAIN, PLAIN, PLAIN, PLAIN, PLAIN);
            x.readings(1, 1, 1);
            return x;
        };
        refusedFor(INDEX, all, (x, index) -> x.reading(index, 0), 18, -1);
    }

    @Says(in = "30", value = "Throws `IllegalArgumentException` if the part is out of range")
    static void p30Argument() {
        refusedFor(ARGUMENT, settled(PLAIN), (x, part) -> x.reading(0, part), -1, 3, LEAST, GREATEST);
    }

    @Says(in = "31", value = {"Returns the number of different days of the readings that were found by the latest call of readings.",
        "Returns the number."})
    static void p31Days() {
        CalendarConverter x = with("m31,28,31;e0", PLAIN);
        is(0, x::differentDays);
        is(9, () -> x.readings(1, 1, 1));
        is(1, x::differentDays);
        is(9, () -> x.readings(1, 1, 2));
        is(4, x::differentDays);
        is(0, () -> x.readings(0, 0, 0));
        is(0, x::differentDays);
        CalendarConverter y = with("m31;e1", "m31;e2", "m31;e3", "m31;e4", "m31;e5");
        is(18, () -> y.readings(1, 1, 1));
        is(6, y::differentDays);
    }

    private static void written(CalendarConverter x, int calendar, int day, String due) {
        is(due.length(), () -> x.write(calendar, day));
        is(due, () -> output(x));
    }

    @Says(in = "32", value = {"Writes a date as the output: the day of the month, a point, the month, an \"i\" if the month is intercalary, "
        + "a point, and the year.", "Returns the length of the output."})
    static void p32Writes() {
        CalendarConverter x = three();
        written(x, 0, 0, "1.1.1");
        written(x, 0, -1, "31.12.0");
        written(x, 0, -367, "31.12.-1");
        written(x, 0, 730484, "31.12.2000");
        written(x, 0, -730851, "1.1.-2000");
        written(x, 2, 9, "10.1.1");
        written(x, 2, 10, "1.2i.1");
        written(x, 2, 16, "7.2i.1");
        written(x, 2, 17, "1.3.1");
        written(x, 2, 47, "1.2.2");
        written(x, 2, -67, "1.1.-1");
        CalendarConverter z = with("m2,2,2,2,2,2,2,2,2,2,2,2,2,9;e0;i14,60;l1+", "m30;e0;d1;l1+");
        written(z, 1, 94, "60.15i.1");
        written(z, 1, 95 * -2000 - 1, "60.15i.-2000");
        written(z, 2, 30, "31.1.1");
    }

    @Says(in = "32", value = "- `day`: the day, -999999 to 999999")
    static void p32Day() {
        CalendarConverter x = with(LATE, EARLY);
        written(x, 1, 999999, "8.1.1993");
        written(x, 2, -999999, "5.5.-1992");
    }

    @Says(in = "32", value = {"- `calendar`: the number of the calendar", "Throws `IndexOutOfBoundsException` if there is no such calendar"})
    static void p32Index() {
        written(three(), 0, 30, "31.1.1");
        written(three(), 1, 30, "1.1.2");
        written(three(), 2, 30, "14.3.1");
        refusedFor(INDEX, THREE, (x, calendar) -> x.write(calendar, 0), NO_CALENDARS);
    }

    @Says(in = "32", value = "Throws `IllegalArgumentException` if the day is out of range")
    static void p32Argument() {
        refusedFor(ARGUMENT, FAR, (x, day) -> x.write(1, day), NO_DAYS);
        refusedFor(ARGUMENT, FAR, (x, day) -> x.write(2, day), NO_DAYS);
    }

    @Says(in = "32", value = "Throws `NoSuchElementException` if the day is outside the calendar")
    static void p32Element() {
        written(three(), 1, -60030, "1.1.-2000");
        written(three(), 1, 59999, "30.1.2000");
        refusedFor(ELEMENT, THREE, (x, day) -> x.write(1, day), -60031, 60000, -999999, 999999);
    }

    @Says(in = "33", value = {"Returns a character of the output, which is empty at first.", "Returns the character."})
    static void p33Output() {
        CalendarConverter x = new CalendarConverter();
        is(INDEX, () -> x.output(0));
        is(5, () -> x.write(0, 0));
        are(x, (y, index) -> (int) y.output(index), 0, 49, 1, 46, 2, 49, 3, 46, 4, 49);
        written(x, 0, 730484, "31.12.2000");
        written(x, 0, 1, "2.1.1");
    }

    @Says(in = "33", value = "- `index`: the index, from 0")
    static void p33Index() {
        CalendarConverter x = three();
        x.write(2, 10);
        are(x, (y, index) -> (int) y.output(index), 0, 49, 3, 105, 5, 49);
    }

    @Says(in = "33", value = "Throws `IndexOutOfBoundsException` if there is no such index")
    static void p33NoIndex() {
        refusedFor(INDEX, CalendarConverter::new, (x, index) -> x.output(index), 0, -1, LEAST, GREATEST);
        refusedFor(INDEX, settled(PLAIN), (x, index) -> x.output(index), 9, -1, LEAST, GREATEST);
        Make shorter = () -> {
            CalendarConverter x = new CalendarConverter();
            x.write(0, 730484);
            x.write(0, 0);
            return x;
        };
        is('1', () -> shorter.made().output(4));
        refusedFor(INDEX, shorter, (x, index) -> x.output(index), 5, 6, 9);
    }

    @Says(in = "34", value = {"Returns the number of years of a calendar, from a year to another one, that begin on the first day of a year, "
        + "from -2000 to 2000, of another calendar.", "Returns the number."})
    static void p34NewYears() {
        CalendarConverter x = with(PLAIN, "m60;e0", "m60;e30", "m30;e1", "m30;e30");
        is(4001, () -> x.newYears(1, 1, -2000, 2000));
        is(1000, () -> x.newYears(1, 2, 1, 2000));
        is(2000, () -> x.newYears(1, 2, -2000, 2000));
        is(2000, () -> x.newYears(2, 1, -2000, 2000));
        is(1000, () -> x.newYears(2, 1, 1, 2000));
        is(0, () -> x.newYears(2, 3, -2000, 2000));
        is(0, () -> x.newYears(1, 4, -2000, 2000));
        is(4000, () -> x.newYears(1, 5, -2000, 2000));
        is(4000, () -> x.newYears(5, 1, -2000, 2000));
        is(0, () -> x.newYears(1, 5, -2000, -2000));
        is(1, () -> x.newYears(1, 5, -1999, -1999));
        is(0, () -> x.newYears(5, 1, 2000, 2000));
        is(1, () -> x.newYears(5, 1, 1999, 1999));
    }

    @Says(in = "34", value = "- `from`: the first year, -2000 to 2000")
    static void p34From() {
        are(three(), (x, from) -> x.newYears(0, 0, from, 2000), -2000, 4001, -1999, 4000, 0, 2001, 1999, 2, 2000, 1);
    }

    @Says(in = "34", value = "- `to`: the last year, from the first one to 2000")
    static void p34To() {
        are(three(), (x, to) -> x.newYears(0, 0, -2000, to), -2000, 1, -1999, 2, 2000, 4001);
        are(three(), (x, to) -> x.newYears(0, 0, 7, to), 7, 1, 8, 2);
    }

    @Says(in = "34", value = {"- `calendar`: the number of the calendar", "- `other`: the other calendar",
        "Throws `IndexOutOfBoundsException` if there is no such calendar"})
    static void p34Index() {
        are(three(), (x, calendar) -> x.newYears(calendar, 1, 1, 73), 0, 4, 1, 73, 2, 3);
        are(three(), (x, other) -> x.newYears(1, other, 1, 1), 0, 1, 1, 1, 2, 1);
        refusedFor(INDEX, THREE, (x, calendar) -> x.newYears(calendar, 0, 1, 1), NO_CALENDARS);
        refusedFor(INDEX, THREE, (x, other) -> x.newYears(0, other, 1, 1), NO_CALENDARS);
    }

    @Says(in = "34", value = "Throws `IllegalArgumentException` if a year is out of range")
    static void p34Argument() {
        refusedFor(ARGUMENT, THREE, (x, from) -> x.newYears(0, 1, from, 2000), -2001, 2001, LEAST, GREATEST);
        refusedFor(ARGUMENT, THREE, (x, to) -> x.newYears(0, 1, -2000, to), -2001, 2001, LEAST, GREATEST);
        refused(ARGUMENT, THREE, x -> x.newYears(0, 1, 1, 0), x -> x.newYears(0, 1, 2001, 2001), x -> x.newYears(0, 1, -2001, -2001),
            x -> x.newYears(0, 1, 2000, -2000));
    }

    @Says(in = "35", value = {"Returns the number of days of all years after which the leap years repeat, divided by the number of these years, "
        + "both converted to double.", "Returns the average."})
    static void p35Average() {
        CalendarConverter x = with(MOONS, "m30;e0;d1;l8+125+", "m30;e0;i1,60;c30:0,29", "m30,1;e0;d2", "m30;e0;i1,7;c1:0");
        double[] due = {146097.0 / 400.0, 383.0 / 3.0, (30000.0 + 132.0) / 1000.0, (900.0 + 120.0) / 30.0, 31.0, 37.0};
        for (int calendar = 0; calendar <= 5; calendar++) {
            int c = calendar;
            is(due[c], () -> x.averageYear(c));
        }
        is(30.0, () -> with("m30;e0;l2+").averageYear(1));
        is(900.0, () -> with("m60,60,60,60,60,60,60,60,60,60,60,60,60,60;e0;i1,60;l1+").averageYear(1));
    }

    @Says(in = "35", value = {"- `calendar`: the number of the calendar", "Throws `IndexOutOfBoundsException` if there is no such calendar"})
    static void p35Index() {
        is(30.0, () -> three().averageYear(1));
        is(33.5, () -> three().averageYear(2));
        refusedFor(INDEX, THREE, CalendarConverter::averageYear, NO_CALENDARS);
    }

    @Says(in = "36", value = {"Returns the difference of two average years: that of the first calendar minus that of the other one, "
        + "as doubles, times 100.0, converted to float.", "Returns the difference."})
    static void p36Drift() {
        CalendarConverter x = with(PLAIN, MOONS, "m30;e0;d1;c7:1");
        double moons = 383.0 / 3.0;
        double sevens = 211.0 / 7.0;
        double zero = 146097.0 / 400.0;
        is((float) ((moons - 30.0) * 100.0), () -> x.drift(2, 1));
        is((float) ((30.0 - moons) * 100.0), () -> x.drift(1, 2));
        is((float) ((sevens - 30.0) * 100.0), () -> x.drift(3, 1));
        is((float) ((sevens - moons) * 100.0), () -> x.drift(3, 2));
        is((float) ((zero - sevens) * 100.0), () -> x.drift(0, 3));
        is(0.0f, () -> x.drift(3, 3));
        String long14 = "m60,60,60,60,60,60,60,60,60,60,60,60,60,60;e0;";
        CalendarConverter near = with(long14 + "i1,10;l331+", long14 + "i1,12;l397+");
        is((float) ((278050.0 / 331.0 - 333492.0 / 397.0) * 100.0), () -> near.drift(1, 2));
        is((float) ((333492.0 / 397.0 - 278050.0 / 331.0) * 100.0), () -> near.drift(2, 1));
        is(0.0f, () -> x.drift(0, 0));
    }

    @Says(in = "36", value = {"- `calendar`: the number of the calendar", "- `other`: the other calendar",
        "Throws `IndexOutOfBoundsException` if there is no such calendar"})
    static void p36Index() {
        is(350.0f, () -> three().drift(2, 1));
        is(-350.0f, () -> three().drift(1, 2));
        refusedFor(INDEX, THREE, (x, calendar) -> x.drift(calendar, 0), NO_CALENDARS);
        refusedFor(INDEX, THREE, (x, other) -> x.drift(0, other), NO_CALENDARS);
    }

    @Says(in = "37", value = {"Takes back the latest change that was not taken back.", "Returns the number of changes that can still be taken back."})
    static void p37Undo() {
        CalendarConverter x = new CalendarConverter();
        set(x, 1, PLAIN);
        set(x, 0, "m31;e0");
        x.addFeast(0, 0, 1, 1, 1, 0);
        x.save();
        x.removeFeast();
        x.restore();
        is(4, x::undo);
        is(0, x::feastCount);
        is(3, x::undo);
        is(1, x::feastCount);
        is(2, x::undo);
        is(0, x::feastCount);
        is(31, () -> x.yearLength(0, 1));
        is(1, x::undo);
        is(365, () -> x.yearLength(0, 1));
        is(2, x::calendarCount);
        set(x, 2, PLAIN);
        is(1, x::undo);
        is(2, x::calendarCount);
        is(0, x::undo);
        is(1, x::calendarCount);
    }

    @Says(in = "37", value = "Takes back the latest change that was not taken back.")
    static void p37Feasts() {
        CalendarConverter x = new CalendarConverter();
        x.addFeast(0, 0, 0, 1, 1, 0);
        x.addFeast(0, 0, 0, 1, 2, 0);
        x.removeFeast();
        x.removeFeast();
        x.addFeast(0, 0, 0, 1, 3, 0);
        x.addFeast(0, 0, 0, 1, 4, 0);
        are(x, (y, feast) -> y.feast(feast, 1), 0, 2, 1, 3);
        is(5, x::undo);
        is(4, x::undo);
        is(3, x::undo);
        is(0, () -> x.feast(0, 1));
        is(2, x::undo);
        are(x, (y, feast) -> y.feast(feast, 1), 0, 0, 1, 1);
    }

    @Says(in = "37", value = "Throws `IllegalStateException` if there is none")
    static void p37State() {
        refused(STATE, CalendarConverter::new, CalendarConverter::undo);
        Make undone = () -> {
            CalendarConverter x = two();
            for (int i = 0; i < 3; i++) {
                x.undo();
            }
            return x;
        };
        refused(STATE, undone, CalendarConverter::undo);
        Make forgotten = () -> {
            CalendarConverter x = new CalendarConverter();
            for (int i = 0; i < 8; i++) {
                x.addFeast(0, i, 0, 1, 1, 0);
            }
            for (int i = 0; i < 6; i++) {
                x.undo();
            }
            return x;
        };
        refused(STATE, forgotten, CalendarConverter::undo);
        is(2, () -> forgotten.made().feastCount());
    }

    /** With the changes of a calendar and two feasts. */
    private static CalendarConverter two() {
        return settled(PLAIN).made();
    }

    @Says(in = "38", value = {"Saves all calendars and feasts, in place of what was saved before.", "Returns the number of calendars."})
    static void p38Saves() {
        CalendarConverter x = new CalendarConverter();
        is(1, x::save);
        for (int count = 2; count <= 6; count++) {
            int due = count;
            set(x, count - 1, "m30;e" + count);
            is(due, x::save);
        }
        for (int i = 0; i < 8; i++) {
            x.addFeast(0, 0, 5, 1, i + 1, 0);
        }
        is(6, x::save);
        for (int i = 0; i < 6; i++) {
            x.removeFeast();
        }
        set(x, 5, "m40;e0");
        is(2, x::feastCount);
        is(6, x::restore);
        is(8, x::feastCount);
        is(6, () -> x.firstDay(5, 1));
        is(13, () -> x.feast(7, 1));
        is(5, x::undo);
        is(6, x::save);
        x.addFeast(0, 0, 0, 1, 1, 0);
        x.restore();
        is(2, x::feastCount);
        is(0, () -> x.firstDay(5, 1));
    }

    @Says(in = "39", value = {"Restores what was saved last.", "Returns the number of calendars."})
    static void p39Restores() {
        CalendarConverter x = new CalendarConverter();
        x.addFeast(0, 0, 0, 1, 1, 0);
        x.save();
        set(x, 1, PLAIN);
        x.save();
        set(x, 2, PLAIN);
        x.removeFeast();
        is(2, x::restore);
        is(2, x::calendarCount);
        is(1, x::feastCount);
        is(30, () -> x.yearLength(1, 1));
        is(INDEX, () -> x.yearLength(2, 1));
    }

    @Says(in = "39", value = "Restores what was saved last.")
    static void p39Feasts() {
        CalendarConverter x = new CalendarConverter();
        x.addFeast(0, 0, 0, 1, 1, 0);
        x.addFeast(0, 0, 0, 1, 2, 0);
        x.save();
        x.removeFeast();
        x.removeFeast();
        x.addFeast(0, 0, 0, 1, 3, 0);
        is(1, x::restore);
        are(x, (y, feast) -> y.feast(feast, 1), 0, 0, 1, 1);
        is(5, x::undo);
        is(2, () -> x.feast(0, 1));
    }

    @Says(in = "39", value = "It stays saved.")
    static void p39Stays() {
        CalendarConverter x = new CalendarConverter();
        x.save();
        for (int i = 0; i < 3; i++) {
            set(x, 1, PLAIN);
            set(x, 0, PLAIN);
            x.addFeast(0, 0, 0, 1, 1, 0);
            is(1, x::restore);
            is(12, () -> x.months(0, 1));
            is(0, x::feastCount);
        }
        for (int left = 5; left >= 0; left--) {
            int due = left;
            is(due, x::undo);
        }
        is(1, x::restore);
        is(12, () -> x.months(0, 1));
    }

    @Says(in = "39", value = "Throws `IllegalStateException` if nothing was saved")
    static void p39State() {
        refused(STATE, CalendarConverter::new, CalendarConverter::restore);
        Make notSaved = () -> {
            CalendarConverter x = with(PLAIN);
            x.addFeast(0, 0, 0, 1, 1, 0);
            x.undo();
            return x;
        };
        refused(STATE, notSaved, CalendarConverter::restore);
        is(1, () -> {
            CalendarConverter x = new CalendarConverter();
            x.save();
            return x.restore();
        });
    }
}
