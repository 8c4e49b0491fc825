/** The sentences of the section "Description" on texts. */
final class TextBoundaries extends Boundary {
    private TextBoundaries() {
    }

    @Says(in = "Description", value = "There is a text of at most 100 characters, which is empty at first.")
    static void hundredCharacters() {
        CalendarConverter x = new CalendarConverter();
        for (int i = 0; i < 100; i++) {
            int index = i;
            is(i + 1, () -> x.appendCharacter(LONG.charAt(index)));
        }
        is(STATE, () -> x.appendCharacter('1'));
        is(12, () -> x.setCalendar(1));
        is(41, () -> x.yearLength(1, 1));
        is(1, () -> x.appendCharacter('m'));
        CalendarConverter empty = new CalendarConverter();
        is(ARGUMENT, () -> empty.setCalendar(1));
        is(0, empty::faultPosition);
    }

    @Says(in = "Description", value = "A calendar is read from a text of this form:")
    static void form() {
        possible(PLAIN, LATE, EARLY, MOONS, MIDDLE, LONG);
        faulty("M30;e0", 0);
        faulty("m30;e0M", 6);
        faulty("30;e0", 0);
    }

    @Says(in = "Description", value = "calendar = \"m\" number { \",\" number } \";e\" [ \"-\" ] number [ leap ] [ rule ] [ weeks ]")
    static void formOfCalendar() {
        possible("m30;e0", "m30,1;e0", "m30,1,1,1,1,1,1,1,1,1,1,1,1,1;e0", "m30;e-0", "m30;e-1");
        String[] leaps = {"", ";d1", ";i1,1"};
        String[] rules = {"", ";l2+", ";c2:0"};
        String[] weeks = {"", ";w7,0,4"};
        for (String leap : leaps) {
            for (String rule : rules) {
                for (String week : weeks) {
                    possible("m30;e0" + leap + rule + week);
                }
            }
        }
        faulty("", 0);
        faulty("m", 1);
        faulty("m,30;e0", 1);
        faulty("m30,,30;e0", 4);
        faulty("m30e0", 3);
        faulty("m30;0", 4);
        faulty("m30;e+0", 5);
        faulty("m30;e--0", 6);
        faulty("m-30;e0", 1);
        faulty("m30;e0;l2+;d1", 11);
        faulty("m30;e0;c2:0;i1,1", 12);
        faulty("m30;e0;w7,0,4;d1", 13);
        faulty("m30;e0;w7,0,4;l2+", 13);
        faulty("m30;e0;d1;d1", 10);
        faulty("m30;e0;i1,1;i1,1", 12);
        faulty("m30;e0;c2:0;c2:0", 12);
        faulty("m30;e0;l2+;l2+", 11);
        faulty("m30;e0;w7,0,4;w7,0,4", 13);
    }

    @Says(in = "Description", value = "leap = \";d\" number | \";i\" number \",\" number")
    static void formOfLeap() {
        possible("m30;e0;d1", "m30;e0;i1,1");
        faulty("m30;e0;d", 8);
        faulty("m30;e0;d,1", 8);
        faulty("m30;e0;d1,1", 9);
        faulty("m30;e0;i", 8);
        faulty("m30;e0;i1", 9);
        faulty("m30;e0;i1;l2+", 9);
        faulty("m30;e0;i1,", 10);
        faulty("m30;e0;i1,;", 10);
        faulty("m30;e0;i1,1,1", 11);
        faulty("m30;e0d1", 6);
        faulty("m30;e0;d1;i1,1", 10);
        faulty("m30;e0;i1,1;d1", 12);
    }

    @Says(in = "Description", value = "rule = \";l\" number sign { number sign } | \";c\" number \":\" number { \",\" number }")
    static void formOfRule() {
        possible("m30;e0;l2+", "m30;e0;l2+4-", "m30;e0;l2+4-8+16-", "m30;e0;c2:0", "m30;e0;c2:0,1");
        possible("m30;e0;c2:0" + ",1".repeat(44));
        faulty("m30;e0;l+", 8);
        faulty("m30;e0;l2", 9);
        faulty("m30;e0;l2,4+", 9);
        faulty("m30;e0;l2+-", 10);
        faulty("m30;e0;l2+,4-", 10);
        faulty("m30;e0;l2+4", 11);
        faulty("m30;e0;l2+4;w7,0,4", 11);
        faulty("m30;e0;c:0", 8);
        faulty("m30;e0;c2", 9);
        faulty("m30;e0;c2,0", 9);
        faulty("m30;e0;c2:", 10);
        faulty("m30;e0;c2:;", 10);
        faulty("m30;e0;c2:0,", 12);
        faulty("m30;e0;c2:0,,1", 12);
        faulty("m30;e0;c2:0:1", 11);
        faulty("m30;e0;c2:0+", 11);
        faulty("m30;e0;l2+;c2:0", 11);
        faulty("m30;e0;c2:0;l2+", 12);
    }

    @Says(in = "Description", value = "weeks = \";w\" number \",\" number \",\" number")
    static void formOfWeeks() {
        possible("m30;e0;w7,0,4", "m30;e0;w07,00,04");
        faulty("m30;e0;w", 8);
        faulty("m30;e0;w7", 9);
        faulty("m30;e0;w7;0,4", 9);
        faulty("m30;e0;w7,", 10);
        faulty("m30;e0;w7,0", 11);
        faulty("m30;e0;w7,0:4", 11);
        faulty("m30;e0;w7,0,", 12);
        faulty("m30;e0;w7,0,4,1", 13);
        faulty("m30;e0;w7,-0,4", 10);
    }

    @Says(in = "Description", value = "sign = \"+\" | \"-\"")
    static void formOfSign() {
        CalendarConverter x = with("m30;e0;l1+", "m30;e0;l1-");
        is(true, () -> x.isLeapYear(1, 1));
        is(false, () -> x.isLeapYear(2, 1));
        faulty("m30;e0;l1*", 9);
        faulty("m30;e0;l1,", 9);
        faulty("m30;e0;l1.", 9);
    }

    @Says(in = "Description", value = "and a number is 1 to 6 digits, also with zeros at its beginning")
    static void digits() {
        possible("m1,30;e0", "m000001,000030;e000000", "m30;e-000000;d000001;l000002+;w000007,000000,000004",
            "m30;e0;i000001,000001;c000002:000000,000001");
        CalendarConverter x = with("m000012,000030;e-000345", "m30;e500000", "m30;e0;l000400+");
        is(12, () -> x.monthLength(1, 1, 1));
        is(-345, () -> x.firstDay(1, 1));
        is(500000, () -> x.firstDay(2, 1));
        is(400, () -> x.calendar(3, 7));
        faulty("m0000030;e0", 7);
        faulty("m30,0000030;e0", 10);
        faulty("m30;e0000000", 11);
        faulty("m30;e-0000000", 12);
        faulty("m30;e0;d0000001", 14);
        faulty("m30;e0;i0000001,1", 14);
        faulty("m30;e0;i1,0000001", 16);
        faulty("m30;e0;l0000002+", 14);
        faulty("m30;e0;l2+0000002+", 16);
        faulty("m30;e0;c0000002:0", 14);
        faulty("m30;e0;c2:0000000", 16);
        faulty("m30;e0;c2:0,0000000", 18);
        faulty("m30;e0;w0000007,0,4", 14);
        faulty("m30;e0;w7,0000000,4", 16);
        faulty("m30;e0;w7,0,0000004", 18);
        impossible("m999999;e0", "m30;e999999", "m30;e-999999", "m30;e0;d999999", "m30;e0;l999999+", "m30;e0;c999999:0",
            "m30;e0;c2:999999", "m30;e0;w999999,0,4");
    }

    @Says(in = "Description", value = "The numbers behind m are the lengths of the months, that behind e is the first day; "
        + "d tells the month of a leap day; i an intercalary month by the month before it and its length; l divisors; "
        + "c a cycle and its remainders; w the length of the weeks, the weekday of the day 0, and k.")
    static void meaning() {
        CalendarConverter x = with("m11,22,33;e-44;i2,55;c6:1,5;w8,7,6", "m11,22,33;e44;d3;l6+9-;w9,1,2");
        are(x, (y, month) -> y.monthLength(1, 2, month), 1, 11, 2, 22, 3, 33);
        are(x, (y, month) -> y.monthLength(1, 1, month), 1, 11, 2, 22, 3, 55, 4, 33);
        are(x, (y, year) -> y.isLeapYear(1, year) ? 1 : 0, 0, 0, 1, 1, 2, 0, 4, 0, 5, 1, 6, 0, 7, 1);
        are(x, (y, part) -> y.calendar(1, part), 0, 3, 1, -44, 2, 2, 3, 2, 4, 8, 5, 7, 6, 6, 7, 6);
        are(x, (y, month) -> y.monthLength(2, 6, month), 1, 11, 2, 22, 3, 34);
        are(x, (y, year) -> y.isLeapYear(2, year) ? 1 : 0, 6, 1, 9, 0, 18, 0, 12, 1);
        are(x, (y, part) -> y.calendar(2, part), 0, 3, 1, 44, 2, 1, 3, 1, 4, 9, 5, 1, 6, 2, 7, 18);
    }

    @Says(in = "Description", value = "Without w the weeks have 7 days, the weekday of the day 0 is 0, and k is 4.")
    static void usualWeeks() {
        CalendarConverter x = with("m30;e0;w10,9,10", "m30;e0");
        are(x, (y, part) -> y.calendar(2, part), 4, 7, 5, 0, 6, 4);
        are(x, (y, day) -> y.date(2, day, 4), -1, 6, 0, 0, 6, 6, 7, 0);
        are(x, (y, year) -> y.firstDayOfWeek(2, year, 1), 1, 0, 2, 28, 3, 63, 0, -28);
    }

    @Says(in = "Description", value = "A text has at most 14 months and 4 divisors.")
    static void fourteenMonthsFourDivisors() {
        CalendarConverter x = with("m3,3,3,3,3,3,3,3,3,3,3,3,3,4;e0", "m30;e0;l2+4-8+16-");
        is(14, () -> x.months(1, 1));
        is(4, () -> x.monthLength(1, 1, 14));
        is(false, () -> x.isLeapYear(2, 16));
        is(true, () -> x.isLeapYear(2, 8));
        faulty("m3,3,3,3,3,3,3,3,3,3,3,3,3,3,3;e0", 28);
        faulty("m30;e0;l2+4-8+16-32+", 17);
    }

    @Says(in = "Description", value = "The fault position of a text is the index of the first character that cannot continue such a text")
    static void firstWrongCharacter() {
        String[] texts = {"m30,1;e-5;i1,9;c3:1,2;w7,0,4", "m30;e5;d1;l2+4-"};
        for (String text : texts) {
            for (int length = 0; length <= text.length(); length++) {
                faulty(text.substring(0, length) + "x" + text.substring(length), length);
                faulty(text.substring(0, length) + "x", length);
            }
        }
        faulty("m0;e0;d9;l0+xx", 12);
        faulty("m30;e0~", 6);
        faulty("!m30;e0", 0);
    }

    @Says(in = "Description", value = "also a seventh digit of a number")
    static void seventhDigit() {
        possible("m000030;e000001");
        faulty("m0000300;e0", 7);
        faulty("m30;e0000010", 11);
        faulty("m1234567", 7);
    }

    @Says(in = "Description", value = "it is the length of the text if the text ends too early")
    static void tooEarly() {
        String text = "m30,1;e-5;i1,9;c3:1,2;w7,0,4";
        for (int length = 0; length < text.length(); length++) {
            String begin = text.substring(0, length);
            boolean whole = length == 9 || length == 14 || length == 19 || length == 21;
            if (whole) {
                possible(begin);
            } else {
                faulty(begin, length);
            }
        }
        possible(text);
        faulty("m30;e0;l2+4", 11);
        faulty("m30;e0;l2", 9);
        faulty(LONG.substring(0, 99), 99);
        faulty(LONG.substring(0, 99) + "5", 100);
        faulty(LONG.substring(0, 96) + ";l4x", 99);
    }

    @Says(in = "Description", value = "A comma before a 15th month, and a digit of a 5th divisor, cannot continue a text.")
    static void fifteenthAndFifth() {
        possible("m3,3,3,3,3,3,3,3,3,3,3,3,3,3;e0", "m30;e0;l1+1-1+1-", "m30;e0;l1+1-1+1-;w7,0,4");
        faulty("m3,3,3,3,3,3,3,3,3,3,3,3,3,3,", 28);
        faulty("m3,3,3,3,3,3,3,3,3,3,3,3,3,3,;", 28);
        faulty("m3,3,3,3,3,3,3,3,3,3,3,3,3,;", 27);
        faulty("m30;e0;l1+1-1+1-1", 16);
        faulty("m30;e0;l1+1-1+1-1+", 16);
        faulty("m30;e0;l1+1-1+1;", 15);
    }

    @Says(in = "Description", value = "A text is not possible if a month or an intercalary month is not from 1 to 60 days long")
    static void possibleMonths() {
        possible("m1,30;e0", "m30,1;e0", "m60;e0", "m30,60;e0", "m30;e0;i1,1", "m30;e0;i1,60");
        impossible("m0,30;e0", "m30,0;e0", "m61;e0", "m30,61;e0", "m30,30,0,30;e0", "m30;e0;i1,0", "m30;e0;i1,61");
    }

    @Says(in = "Description", value = "all months without leap days and intercalary months are together shorter than 30 days")
    static void possibleYears() {
        possible("m30;e0", "m29,1;e0", "m15,15;e0", "m2,2,2,2,2,2,2,2,2,2,2,2,2,4;e0");
        impossible("m29;e0", "m28,1;e0", "m29;e0;d1;l1+", "m29;e0;i1,60;l1+", "m1;e0", "m2,2,2,2,2,2,2,2,2,2,2,2,2,3;e0");
    }

    @Says(in = "Description", value = "the first day is not from -500000 to 500000")
    static void possibleFirstDays() {
        possible("m30;e500000", "m30;e-500000");
        impossible("m30;e500001", "m30;e-500001");
    }

    @Says(in = "Description", value = "a month does not exist, a divisor")
    static void possibleLeapMonths() {
        possible("m30,1;e0;d1", "m30,1;e0;d2", "m30,1;e0;i1,1", "m30,1;e0;i2,1");
        impossible("m30,1;e0;d0", "m30,1;e0;d3", "m30,1;e0;i0,1", "m30,1;e0;i3,1", "m30;e0;d2", "m30;e0;i2,1");
    }

    @Says(in = "Description", value = "a divisor is not from 1 to 400")
    static void possibleDivisors() {
        possible("m30;e0;l1+", "m30;e0;l400+", "m30;e0;l400-1+400+1-");
        impossible("m30;e0;l0+", "m30;e0;l401+", "m30;e0;l4+0-", "m30;e0;l4+8+16+0+", "m30;e0;l500+", "m30;e0;l1000+");
    }

    @Says(in = "Description", value = "the least common multiple of the divisors is greater than 1000")
    static void possibleMultiples() {
        possible("m30;e0;l8+125+", "m30;e0;l125+8+", "m30;e0;l200+250-8+125-", "m30;e0;l27+37+", "m30;e0;l333+3-9+111-");
        impossible("m30;e0;l7+11+13+", "m30;e0;l91+11+", "m30;e0;l400+300+", "m30;e0;l8+125+3+", "m30;e0;l8+125+1+3-",
            "m30;e0;l400+399+398+397+");
    }

    @Says(in = "Description", value = "the number of a cycle is not from 1 to 30")
    static void possibleCycles() {
        possible("m30;e0;c1:0", "m30;e0;c30:0");
        impossible("m30;e0;c0:0", "m30;e0;c31:0");
    }

    @Says(in = "Description", value = "a remainder is not less than it, or")
    static void possibleRemainders() {
        possible("m30;e0;c1:0", "m30;e0;c30:29", "m30;e0;c7:6,5,6");
        impossible("m30;e0;c1:1", "m30;e0;c30:30", "m30;e0;c7:7", "m30;e0;c7:6,7", "m30;e0;c7:7,6", "m30;e0;c30:0,32");
    }

    @Says(in = "Description", value = "or a number of the weeks is out of range")
    static void possibleWeeks() {
        possible("m30;e0;w2,0,1", "m30;e0;w2,1,2", "m30;e0;w10,9,10");
        impossible("m30;e0;w0,0,0", "m30;e0;w1,0,1", "m30;e0;w11,0,1", "m30;e0;w2,2,1", "m30;e0;w10,10,1", "m30;e0;w7,0,0",
            "m30;e0;w7,0,8");
    }

    @Says(in = "Description", value = "The calendar 0 is there at first, by the text \"m31,28,31,30,31,30,31,31,30,31,30,31;e0;d2;l4+100-400+\".")
    static void calendarZero() {
        CalendarConverter x = new CalendarConverter();
        set(x, 1, "m31,28,31,30,31,30,31,31,30,31,30,31;e0;d2;l4+100-400+");
        for (int calendar = 0; calendar <= 1; calendar++) {
            int c = calendar;
            are(x, (y, part) -> y.calendar(c, part), 0, 12, 1, 0, 2, 1, 3, 1, 4, 7, 5, 0, 6, 4, 7, 400);
            are(x, (y, year) -> y.yearLength(c, year), 4, 366, 100, 365, 200, 365, 300, 365, 400, 366, 0, 366, 1, 365, -4, 366,
                -100, 365, -400, 366);
            are(x, (y, month) -> y.monthLength(c, 4, month), 1, 31, 2, 29, 3, 31, 4, 30, 11, 30, 12, 31);
            is(0, () -> x.firstDay(c, 1));
            is(730119, () -> x.firstDay(c, 2000));
        }
        is(4001, () -> x.newYears(0, 1, -2000, 2000));
    }
}
