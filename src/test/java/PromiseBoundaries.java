/** The sentences of the promises 1 to 6. */
final class PromiseBoundaries extends Boundary {
    private PromiseBoundaries() {
    }

    @Says(in = "1", value = "Creates a converter with the calendar 0 alone, without feasts.")
    static void p01New() {
        CalendarConverter x = new CalendarConverter();
        is(1, x::calendarCount);
        is(0, x::feastCount);
        is(12, () -> x.months(0, 1));
        is(INDEX, () -> x.months(1, 1));
        is(INDEX, () -> x.feast(0, 1));
        is(-1, x::faultPosition);
        is(0, x::differentDays);
        is(INDEX, () -> x.reading(0, 0));
        is(INDEX, () -> x.output(0));
        is(ELEMENT, () -> x.feastOn(1, 0));
        is(STATE, x::undo);
        is(STATE, x::restore);
        is(STATE, x::removeFeast);
        is(1, () -> x.appendCharacter('m'));
    }

    @Says(in = "2", value = "Appends a character to the text.")
    static void p02Appends() {
        CalendarConverter x = new CalendarConverter();
        write(x, "m30,4;e-57");
        is(2, () -> x.setCalendar(1));
        are(x, (y, month) -> y.monthLength(1, 1, month), 1, 30, 2, 4);
        is(-57, () -> x.firstDay(1, 1));
        faulty("m30!", 3);
        faulty("m30;e0~", 6);
    }

    @Says(in = "2", value = "- `character`: the character code, 33 to 126")
    static void p02Character() {
        CalendarConverter x = new CalendarConverter();
        for (int character = 33; character <= 126; character++) {
            int code = character;
            is(1, () -> x.appendCharacter(code));
            is(ARGUMENT, () -> x.setCalendar(0));
            is(character == 'm' ? 1 : 0, x::faultPosition);
        }
    }

    @Says(in = "2", value = "Returns the new length of the text.")
    static void p02Length() {
        CalendarConverter x = new CalendarConverter();
        for (int length = 1; length <= 100; length++) {
            is(length, () -> x.appendCharacter(33));
        }
        is(ARGUMENT, () -> x.setCalendar(0));
        is(1, () -> x.appendCharacter(33));
        is(INDEX, () -> x.setCalendar(9));
        is(1, () -> x.appendCharacter(33));
    }

    @Says(in = "2", value = "Throws `IllegalArgumentException` if character is not from 33 to 126")
    static void p02Argument() {
        refusedFor(ARGUMENT, settled(PLAIN), CalendarConverter::appendCharacter, 32, 127, 0, -1, 10, 65536 + 48, 256 + 48, 48 - 256,
            LEAST, GREATEST);
    }

    private static CalendarConverter fullText() {
        CalendarConverter x = new CalendarConverter();
        write(x, LONG);
        return x;
    }

    @Says(in = "2", value = "Throws `IllegalStateException` if the text has 100 characters")
    static void p02State() {
        refusedFor(STATE, PromiseBoundaries::fullText, CalendarConverter::appendCharacter, 33, 48, 126);
        CalendarConverter x = fullText();
        is(STATE, () -> x.appendCharacter('+'));
        is(12, () -> x.setCalendar(0));
        CalendarConverter y = new CalendarConverter();
        write(y, LONG.substring(0, 99));
        is(100, () -> y.appendCharacter('+'));
        is(12, () -> y.setCalendar(1));
    }

    @Says(in = "3", value = "Reads the text as a calendar, empties it, and makes this calendar the one with a number, or a new one.")
    static void p03Reads() {
        CalendarConverter x = new CalendarConverter();
        set(x, 1, "m31;e0");
        is(2, x::calendarCount);
        set(x, 0, "m32;e0");
        is(2, x::calendarCount);
        set(x, 1, "m33;e0");
        is(2, x::calendarCount);
        are(x, (y, calendar) -> y.yearLength(calendar, 1), 0, 32, 1, 33);
        is(1, () -> x.appendCharacter('m'));
    }

    @Says(in = "3", value = "The text is emptied also if an exception is thrown")
    static void p03Empties() {
        CalendarConverter x = new CalendarConverter();
        is(INDEX, () -> set(x, 2, PLAIN));
        is(1, () -> x.appendCharacter('x'));
        is(ARGUMENT, () -> x.setCalendar(1));
        is(1, () -> x.appendCharacter('m'));
        write(x, "29;e0");
        is(STATE, () -> x.setCalendar(1));
        is(1, () -> x.appendCharacter('m'));
        write(x, "30;e0");
        is(1, () -> x.setCalendar(1));
    }

    @Says(in = "3", value = "without such a number the fault position stays as it was")
    static void p03FaultStays() {
        CalendarConverter x = new CalendarConverter();
        is(INDEX, () -> set(x, 2, "m30;x"));
        is(-1, x::faultPosition);
        is(ARGUMENT, () -> set(x, 1, "m30;x"));
        is(4, x::faultPosition);
        is(INDEX, () -> set(x, 2, "x"));
        is(4, x::faultPosition);
        is(INDEX, () -> set(x, -1, PLAIN));
        is(4, x::faultPosition);
    }

    @Says(in = "3", value = "- `calendar`: the number, 0 up to the number of calendars, but at most 5")
    static void p03Number() {
        CalendarConverter x = new CalendarConverter();
        for (int count = 1; count <= 5; count++) {
            int number = count;
            is(INDEX, () -> set(x, number + 1, PLAIN));
            is(1, () -> set(x, number, PLAIN));
            is(number + 1, x::calendarCount);
            is(1, () -> set(x, 0, PLAIN));
        }
        is(INDEX, () -> set(x, 6, PLAIN));
        is(1, () -> set(x, 5, "m31;e0"));
        is(31, () -> x.yearLength(5, 1));
        is(6, x::calendarCount);
    }

    @Says(in = "3", value = "Returns the number of its months.")
    static void p03Months() {
        possible(PLAIN, "m3,3,3,3,3,3,3,3,3,3,3,3,3,3;e0", MIDDLE, MOONS, "m30;e0;i1,5;l1+");
    }

    @Says(in = "3", value = "Throws `IndexOutOfBoundsException` if the number is out of range")
    static void p03Index() {
        for (int number : new int[] {-1, 3, 5, 6, LEAST, GREATEST}) {
            refusedText(INDEX, 4, number, PLAIN);
        }
        refusedText(INDEX, 4, 3, "");
        Make six = without(PLAIN, PLAIN, PLAIN, PLAIN, PLAIN);
        refusedFor(INDEX, six, CalendarConverter::setCalendar, 6, 7, -1);
    }

    @Says(in = "3", value = "Throws `IllegalArgumentException` if the text has a fault")
    static void p03Argument() {
        faulty("", 0);
        faulty("m30", 3);
        faulty("m30;e0;", 7);
        faulty("m30;e0;l4", 9);
        faulty("m0;e0x", 5);
        refusedText(ARGUMENT, 5, 0, "m30;e");
        refusedText(ARGUMENT, 5, 2, "m30;e");
    }

    @Says(in = "3", value = "Throws `IllegalStateException` if the text is not possible")
    static void p03State() {
        impossible("m29;e0", "m61;e0", "m30;e500001", "m30;e0;d2", "m30;e0;l401+", "m30;e0;c31:0", "m30;e0;w7,7,4");
        refusedText(STATE, -1, 0, "m29;e0");
        refusedText(STATE, -1, 2, "m29;e0");
    }

    @Says(in = "4", value = "Returns the fault position of the text that was read by the latest call of setCalendar.")
    static void p04Latest() {
        CalendarConverter x = new CalendarConverter();
        is(ARGUMENT, () -> set(x, 1, "m30;x"));
        is(4, x::faultPosition);
        write(x, "m30;e0;x");
        is(4, x::faultPosition);
        is(ARGUMENT, () -> x.setCalendar(1));
        is(7, x::faultPosition);
        x.addFeast(0, 0, 0, 1, 1, 0);
        x.undo();
        x.save();
        x.restore();
        is(7, x::faultPosition);
        is(ARGUMENT, () -> x.setCalendar(1));
        is(0, x::faultPosition);
        is(ARGUMENT, () -> set(x, 1, LONG.substring(0, 99)));
        is(99, x::faultPosition);
    }

    @Says(in = "4", value = "Returns the fault position, or -1 if that text had no fault or no text was read.")
    static void p04None() {
        CalendarConverter x = new CalendarConverter();
        is(-1, x::faultPosition);
        is(ARGUMENT, () -> x.setCalendar(0));
        is(0, x::faultPosition);
        is(1, () -> set(x, 1, PLAIN));
        is(-1, x::faultPosition);
        is(ARGUMENT, () -> x.setCalendar(0));
        is(STATE, () -> set(x, 1, "m29;e0"));
        is(-1, x::faultPosition);
    }

    @Says(in = "5", value = {"Returns the number of calendars.", "Returns 1 to 6."})
    static void p05Count() {
        CalendarConverter x = new CalendarConverter();
        is(1, x::calendarCount);
        for (int count = 2; count <= 6; count++) {
            set(x, count - 1, PLAIN);
            is(count, x::calendarCount);
        }
        set(x, 5, PLAIN);
        is(6, x::calendarCount);
        for (int count : new int[] {6, 5, 4, 3, 2, 1}) {
            x.undo();
            is(count, x::calendarCount);
        }
    }

    @Says(in = "6", value = {"Returns a number of a calendar.", "Returns the number."})
    static void p06Numbers() {
        CalendarConverter x = with("m30,2;e5;d2;c7:3;w9,8,7", MIDDLE, "m30;e-6;l6+4-");
        are(x, (y, part) -> y.calendar(0, part), 0, 12, 1, 0, 2, 1, 3, 1, 4, 7, 5, 0, 6, 4, 7, 400);
        are(x, (y, part) -> y.calendar(1, part), 0, 2, 1, 5, 2, 1, 3, 2, 4, 9, 5, 8, 6, 7, 7, 7);
        are(x, (y, part) -> y.calendar(2, part), 0, 2, 1, 0, 2, 2, 3, 2, 4, 7, 5, 0, 6, 4, 7, 2);
        are(x, (y, part) -> y.calendar(3, part), 0, 1, 1, -6, 2, 0, 3, 1, 4, 7, 5, 0, 6, 4, 7, 12);
    }

    @Says(in = "6", value = "- `calendar`: the number of the calendar")
    static void p06Calendar() {
        CalendarConverter x = with("m31;e1", "m32;e2", "m33;e3", "m34;e4", "m35;e5");
        are(x, (y, calendar) -> y.calendar(calendar, 1), 0, 0, 1, 1, 2, 2, 3, 3, 4, 4, 5, 5);
    }

    @Says(in = "6", value = "- `part`: 0 for the number of months in a year that is no leap year")
    static void p06Months() {
        CalendarConverter x = with(PLAIN, "m3,3,3,3,3,3,3,3,3,3,3,3,3,3;e0", "m30;e0;i1,60;l1+");
        are(x, (y, calendar) -> y.calendar(calendar, 0), 0, 12, 1, 1, 2, 14, 3, 1);
    }

    @Says(in = "6", value = "1 for the first day, 2 for 0 without a leap, 1 with a leap day, 2 with an intercalary month, "
        + "3 for 0 without a leap rule, 1 by divisors, 2 by a cycle")
    static void p06Leaps() {
        CalendarConverter x = with("m30;e-500000", "m30;e500000;d1;l1-", "m30;e0;i1,1;c1:0", "m30;e0;d1", "m30;e0;c9:0");
        are(x, (y, calendar) -> y.calendar(calendar, 1), 1, -500000, 2, 500000, 3, 0);
        are(x, (y, calendar) -> y.calendar(calendar, 2), 1, 0, 2, 1, 3, 2, 4, 1, 5, 0);
        are(x, (y, calendar) -> y.calendar(calendar, 3), 1, 0, 2, 1, 3, 2, 4, 0, 5, 2);
    }

    @Says(in = "6", value = "4 for the length of the weeks, 5 for the weekday of the day 0, 6 for k")
    static void p06Weeks() {
        CalendarConverter x = with("m30;e0;w2,0,1", "m30;e0;w10,9,10", "m30;e0;w3,2,1", PLAIN);
        are(x, (y, calendar) -> y.calendar(calendar, 4), 1, 2, 2, 10, 3, 3, 4, 7);
        are(x, (y, calendar) -> y.calendar(calendar, 5), 1, 0, 2, 9, 3, 2, 4, 0);
        are(x, (y, calendar) -> y.calendar(calendar, 6), 1, 1, 2, 10, 3, 1, 4, 4);
    }

    @Says(in = "6", value = "7 for the number of years after which the leap years repeat: "
        + "the least common multiple of the divisors, the number of the cycle, or 1")
    static void p06Period() {
        CalendarConverter x = with(PLAIN, "m30;e0;l8+125+", "m30;e0;c30:0", "m30;e0;c1:0", "m30;e0;l1-");
        are(x, (y, calendar) -> y.calendar(calendar, 7), 0, 400, 1, 1, 2, 1000, 3, 30, 4, 1, 5, 1);
        CalendarConverter z = with("m30;e0;l4+6+9+10+", "m30;e0;l400-400+", "m30;e0;l3+3-", "m30;e0;c7:1,1", "m30;e0;d1");
        are(z, (y, calendar) -> y.calendar(calendar, 7), 1, 180, 2, 400, 3, 3, 4, 7, 5, 1);
    }

    @Says(in = "6", value = "Throws `IndexOutOfBoundsException` if there is no such calendar")
    static void p06Index() {
        refusedFor(INDEX, settled(PLAIN), (x, calendar) -> x.calendar(calendar, 0), -1, 2, 5, 6, LEAST, GREATEST);
        Make undone = () -> {
            CalendarConverter x = with(PLAIN, PLAIN);
            x.undo();
            return x;
        };
        refusedFor(INDEX, undone, (x, calendar) -> x.calendar(calendar, 0), 2);
    }

    @Says(in = "6", value = "Throws `IllegalArgumentException` if the part is out of range")
    static void p06Argument() {
        refusedFor(ARGUMENT, settled(PLAIN), (x, part) -> x.calendar(1, part), -1, 8, LEAST, GREATEST);
    }
}
