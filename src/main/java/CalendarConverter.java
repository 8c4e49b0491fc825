import java.util.Arrays;
import java.util.NoSuchElementException;

/**
 * A converter for calendars that are read from texts: days, weeks, feasts, readings and spans,
 * with changes that can be taken back.
 */
public final class CalendarConverter {
    private static final String FIRST_CALENDAR =
        "m31,28,31,30,31,30,31,31,30,31,30,31;e0;d2;l4+100-400+";
    private static final int MOST_CHARACTERS = 100;
    private static final int MOST_CALENDARS = 6;
    private static final int MOST_FEASTS = 8;
    private static final int MOST_CHANGES = 6;
    private static final int MOST_MONTHS = 14;
    private static final int MOST_DIVISORS = 4;
    private static final int LONGEST_CYCLE = 30;
    private static final int LONGEST_PERIOD = 1000;
    private static final int MOST_READINGS = 18;
    private static final int GREATEST_RANK = 9;
    private static final int FIRST_YEAR = -2000;
    private static final int LAST_YEAR = 2000;
    private static final int MEETING_YEARS = 200;
    private static final int FIRST_DAY = -999999;
    private static final int LAST_DAY = 999999;
    private static final int SEARCHED_DAYS = 400;
    private static final int SEARCH_STEPS = 32;
    private static final int LEAP_DAY = 1;
    private static final int INTERCALARY = 2;
    private static final int BY_DIVISORS = 1;
    private static final int BY_CYCLE = 2;
    /** Stands for a day or a year that is not there; no real one has this number. */
    private static final int NONE = -2147483648;

    private final Text text = new Text();
    private final Reader reader = new Reader(text);
    private final State state = new State();
    private final State saved = new State();
    private final History history = new History();
    private final FeastDays feastDays = new FeastDays();
    private final Readings found = new Readings();
    private final StringBuilder written = new StringBuilder();
    private boolean somethingSaved;
    private int fault = -1;

    public CalendarConverter() {
        for (int i = 0; i < FIRST_CALENDAR.length(); i++) {
            text.append(FIRST_CALENDAR.charAt(i));
        }
        reader.read();
        state.setCalendarAt(0, new Calendar(reader));
        text.clear();
    }

    public int appendCharacter(int character) throws IllegalArgumentException, IllegalStateException {
        demand(isFrom(character, 33, 126));
        if (text.length() >= MOST_CHARACTERS) {
            throw new IllegalStateException("the text is full");
        }
        text.append(character);
        return text.length();
    }

    public int setCalendar(int calendar)
            throws IndexOutOfBoundsException, IllegalArgumentException, IllegalStateException {
        int last = Math.min(state.calendarCount(), MOST_CALENDARS - 1);
        if (!isFrom(calendar, 0, last)) {
            text.clear();
            throw new IndexOutOfBoundsException("no such number for a calendar");
        }
        boolean faultless = reader.read();
        fault = faultless ? -1 : text.position();
        text.clear();
        if (!faultless) {
            throw new IllegalArgumentException("the text has a fault");
        }
        if (!reader.isPossible()) {
            throw new IllegalStateException("the text is not possible");
        }
        Calendar made = new Calendar(reader);
        history.keep(state);
        state.setCalendarAt(calendar, made);
        return made.commonMonths();
    }

    public int faultPosition() {
        return fault;
    }

    public int calendarCount() {
        return state.calendarCount();
    }

    public int calendar(int calendar, int part) throws IndexOutOfBoundsException, IllegalArgumentException {
        Calendar used = existing(calendar);
        demand(isFrom(part, 0, 7));
        return used.describe(part);
    }

    public boolean isLeapYear(int calendar, int year)
            throws IndexOutOfBoundsException, IllegalArgumentException {
        Calendar used = existing(calendar);
        demand(isYear(year));
        return used.leaps(year);
    }

    public int months(int calendar, int year) throws IndexOutOfBoundsException, IllegalArgumentException {
        Calendar used = existing(calendar);
        demand(isYear(year));
        return used.monthCount(year);
    }

    public int monthLength(int calendar, int year, int month)
            throws IndexOutOfBoundsException, IllegalArgumentException {
        Calendar used = existing(calendar);
        demand(used.hasMonth(year, month));
        return used.lengthOfMonth(year, month);
    }

    public boolean isIntercalary(int calendar, int year, int month)
            throws IndexOutOfBoundsException, IllegalArgumentException {
        Calendar used = existing(calendar);
        demand(used.hasMonth(year, month));
        return used.insertsMonth(year, month);
    }

    public int yearLength(int calendar, int year)
            throws IndexOutOfBoundsException, IllegalArgumentException {
        Calendar used = existing(calendar);
        demand(isYear(year));
        return used.lengthOfYear(year);
    }

    public int firstDay(int calendar, int year) throws IndexOutOfBoundsException, IllegalArgumentException {
        Calendar used = existing(calendar);
        demand(isYear(year));
        return used.startOfYear(year);
    }

    public int dayOf(int calendar, int year, int month, int day)
            throws IndexOutOfBoundsException, IllegalArgumentException {
        int dated = existing(calendar).dayOfDate(year, month, day);
        demand(isDay(dated));
        return dated;
    }

    public int date(int calendar, int day, int part)
            throws IndexOutOfBoundsException, IllegalArgumentException, NoSuchElementException {
        Calendar used = existing(calendar);
        demand(isDay(day) && isFrom(part, 0, 4));
        return used.partOfDate(yearInside(used, day), day, part);
    }

    public int convert(int calendar, int year, int month, int day, int other, int part)
            throws IndexOutOfBoundsException, IllegalArgumentException, NoSuchElementException {
        Calendar used = existing(calendar);
        Calendar target = existing(other);
        int same = used.dayOfDate(year, month, day);
        demand(isDay(same) && isFrom(part, 0, 4));
        return target.partOfDate(yearInside(target, same), same, part);
    }

    public int week(int calendar, int day, int part)
            throws IndexOutOfBoundsException, IllegalArgumentException, NoSuchElementException {
        Calendar used = existing(calendar);
        demand(isDay(day) && isFrom(part, 0, 1));
        int weekYear = used.weekYearOf(yearInside(used, day), day);
        return part == 0 ? weekYear : used.weekNumber(weekYear, day);
    }

    public int weeks(int calendar, int year) throws IndexOutOfBoundsException, IllegalArgumentException {
        Calendar used = existing(calendar);
        demand(isYear(year));
        return used.weekCount(year);
    }

    public int firstDayOfWeek(int calendar, int year, int week)
            throws IndexOutOfBoundsException, IllegalArgumentException {
        Calendar used = existing(calendar);
        demand(isYear(year) && isFrom(week, 1, used.weekCount(year)));
        return used.startOfWeek(year, week);
    }

    public int plus(int calendar, int day, int months)
            throws IndexOutOfBoundsException, IllegalArgumentException, NoSuchElementException {
        Calendar used = existing(calendar);
        demand(isDay(day) && isFrom(months, -9999, 9999));
        return present(used.monthsLater(day, months));
    }

    public int plusYears(int calendar, int day, int years)
            throws IndexOutOfBoundsException, IllegalArgumentException, NoSuchElementException {
        Calendar used = existing(calendar);
        demand(isDay(day) && isFrom(years, -4000, 4000));
        return present(used.yearsLater(day, years));
    }

    public int span(int calendar, int from, int to, int part)
            throws IndexOutOfBoundsException, IllegalArgumentException, NoSuchElementException {
        Calendar used = existing(calendar);
        demand(isDay(from) && isDay(to) && from <= to && isFrom(part, 0, 2));
        int years = yearInside(used, to) - yearInside(used, from);
        if (used.yearsLater(from, years) > to) {
            years--;
        }
        if (part == 0) {
            return years;
        }
        int afterYears = used.yearsLater(from, years);
        int months = used.monthsBetween(afterYears, to);
        return part == 1 ? months : to - used.monthsLater(afterYears, months);
    }

    public int addFeast(int rule, int rank, int which, int a, int b, int c)
            throws IllegalArgumentException, IllegalStateException {
        demand(isFrom(rule, 0, 4) && isFrom(rank, 0, GREATEST_RANK));
        demand(isFrom(which, 0, (rule <= 1 ? state.calendarCount() : state.feastCount()) - 1));
        demand(areNumbersOfRule(rule, a, b, c));
        if (state.feastCount() >= MOST_FEASTS) {
            throw new IllegalStateException("there are 8 feasts");
        }
        history.keep(state);
        state.addLastFeast(new Feast(rule, rank, which, a, b, c));
        return state.feastCount() - 1;
    }

    public int removeFeast() throws IllegalStateException {
        if (state.feastCount() < 1) {
            throw new IllegalStateException("there are no feasts");
        }
        history.keep(state);
        state.removeLastFeast();
        return state.feastCount();
    }

    public int feastCount() {
        return state.feastCount();
    }

    public int feast(int feast, int year)
            throws IndexOutOfBoundsException, IllegalArgumentException, NoSuchElementException {
        checkFeast(feast);
        demand(isYear(year));
        feastDays.find(state, feast + 1, year);
        return present(feastDays.dayAt(feast));
    }

    public int placedFeast(int feast, int year)
            throws IndexOutOfBoundsException, IllegalArgumentException, NoSuchElementException {
        checkFeast(feast);
        demand(isYear(year));
        feastDays.find(state, state.feastCount(), year);
        feastDays.place(state);
        int placed = feastDays.placeAt(feast);
        if (placed == NONE) {
            throw new NoSuchElementException("the feast has no day in this year");
        }
        return placed;
    }

    public int feastOn(int year, int day) throws IllegalArgumentException, NoSuchElementException {
        demand(isYear(year) && isDay(day));
        feastDays.find(state, state.feastCount(), year);
        feastDays.place(state);
        int feast = feastDays.feastPlacedOn(day);
        if (feast < 0) {
            throw new NoSuchElementException("no feast is placed on this day");
        }
        return feast;
    }

    public int meetingYear(int feast, int other, int from)
            throws IndexOutOfBoundsException, IllegalArgumentException, NoSuchElementException {
        checkFeast(feast);
        checkFeast(other);
        demand(feast != other && isFrom(from, FIRST_YEAR, LAST_YEAR - MEETING_YEARS + 1));
        int count = Math.max(feast, other) + 1;
        for (int i = 0; i < MEETING_YEARS; i++) {
            feastDays.find(state, count, from + i);
            int day = feastDays.dayAt(feast);
            if (day != NONE && day == feastDays.dayAt(other)) {
                return from + i;
            }
        }
        throw new NoSuchElementException("the feasts do not meet in these years");
    }

    public int readings(int first, int second, int third) {
        found.clear();
        for (int i = 0; i < state.calendarCount(); i++) {
            Calendar used = state.calendarAt(i);
            if (used != null) {
                found.addIfDay(i, 0, used.dayOfDate(third, second, first));
                found.addIfDay(i, 1, used.dayOfDate(third, first, second));
                found.addIfDay(i, 2, used.dayOfDate(first, second, third));
            }
        }
        return found.count();
    }

    public int reading(int index, int part) throws IndexOutOfBoundsException, IllegalArgumentException {
        if (!isFrom(index, 0, found.count() - 1)) {
            throw new IndexOutOfBoundsException("no such reading");
        }
        demand(isFrom(part, 0, 2));
        return found.partAt(index, part);
    }

    public int differentDays() {
        return found.distinctDays();
    }

    public int write(int calendar, int day)
            throws IndexOutOfBoundsException, IllegalArgumentException, NoSuchElementException {
        Calendar used = existing(calendar);
        demand(isDay(day));
        int year = yearInside(used, day);
        int month = used.monthOf(year, day);
        written.setLength(0);
        written.append(used.partOfDate(year, day, 2)).append('.').append(month);
        if (used.insertsMonth(year, month)) {
            written.append('i');
        }
        written.append('.').append(year);
        return written.length();
    }

    public char output(int index) throws IndexOutOfBoundsException {
        if (!isFrom(index, 0, written.length() - 1)) {
            throw new IndexOutOfBoundsException("no such index");
        }
        return written.charAt(index);
    }

    public int newYears(int calendar, int other, int from, int to)
            throws IndexOutOfBoundsException, IllegalArgumentException {
        Calendar used = existing(calendar);
        Calendar target = existing(other);
        demand(isYear(from) && isYear(to) && from <= to);
        int count = 0;
        int start = used.startOfYear(from);
        int year = FIRST_YEAR;
        int targetStart = target.startOfYear(year);
        for (int i = from; i <= to; i++) {
            for (; year < LAST_YEAR && targetStart < start; year++) {
                targetStart += target.lengthOfYear(year);
            }
            if (targetStart == start) {
                count++;
            }
            start += used.lengthOfYear(i);
        }
        return count;
    }

    public double averageYear(int calendar) throws IndexOutOfBoundsException {
        return existing(calendar).averageLength();
    }

    public float drift(int calendar, int other) throws IndexOutOfBoundsException {
        Calendar used = existing(calendar);
        Calendar target = existing(other);
        return (float) ((used.averageLength() - target.averageLength()) * 100.0);
    }

    public int undo() throws IllegalStateException {
        if (history.count() < 1) {
            throw new IllegalStateException("there is no change to take back");
        }
        history.takeBack(state);
        return history.count();
    }

    public int save() {
        saved.copyFrom(state);
        somethingSaved = true;
        return state.calendarCount();
    }

    public int restore() throws IllegalStateException {
        if (!somethingSaved) {
            throw new IllegalStateException("nothing was saved");
        }
        history.keep(state);
        state.copyFrom(saved);
        return state.calendarCount();
    }

    private Calendar existing(int calendar) {
        Calendar used = state.calendarAt(calendar);
        if (used == null) {
            throw new IndexOutOfBoundsException("no such calendar");
        }
        return used;
    }

    private void checkFeast(int feast) {
        if (!isFrom(feast, 0, state.feastCount() - 1)) {
            throw new IndexOutOfBoundsException("no such feast");
        }
    }

    private boolean areNumbersOfRule(int rule, int a, int b, int c) {
        int lastCalendar = state.calendarCount() - 1;
        switch (rule) {
            case Feast.DATE:
                return isFrom(a, 1, 15) && isFrom(b, 1, 60) && c == 0;
            case Feast.WEEKDAY_IN_MONTH:
                return isFrom(a, 1, 15) && (b == -1 || isFrom(b, 1, 5)) && isFrom(c, 0, 9);
            case Feast.DAYS_AFTER:
                return isFrom(a, -400, 400) && b == 0 && c == 0;
            case Feast.NEXT_WEEKDAY:
                return isFrom(a, 0, lastCalendar) && isFrom(b, 0, 9) && c == 0;
            default:
                return isFrom(a, 0, lastCalendar) && isFrom(b, 1, 60) && c == 0;
        }
    }

    private static int yearInside(Calendar used, int day) {
        int year = used.yearOf(day);
        if (year == NONE) {
            throw new NoSuchElementException("the day is outside the calendar");
        }
        return year;
    }

    private static int present(int day) {
        if (!isDay(day)) {
            throw new NoSuchElementException("there is no such day");
        }
        return day;
    }

    private static void demand(boolean holds) {
        if (!holds) {
            throw new IllegalArgumentException("a number is out of range");
        }
    }

    private static boolean isFrom(int number, int low, int high) {
        return number >= low && number <= high;
    }

    private static boolean isYear(int year) {
        return year >= FIRST_YEAR && year <= LAST_YEAR;
    }

    private static boolean isDay(int day) {
        return day >= FIRST_DAY && day <= LAST_DAY;
    }

    /** The text, with the position up to which it is read and the number read last. */
    private static final class Text {
        private static final int MOST_DIGITS = 6;
        /** Stands for the end; no character of a text has this code. */
        private static final char END = 0;

        private final char[] characters = new char[MOST_CHARACTERS];
        private int length;
        private int position;
        private int number;

        int length() {
            return length;
        }

        int position() {
            return position;
        }

        int number() {
            return number;
        }

        void append(int character) {
            if (length >= 0 && length < characters.length) {
                characters[length] = (char) character;
                length++;
            }
        }

        void clear() {
            length = 0;
        }

        void rewind() {
            position = 0;
        }

        boolean isAtEnd() {
            return position >= length;
        }

        boolean accept(char wanted) {
            if (next() != wanted) {
                return false;
            }
            position++;
            return true;
        }

        boolean seesDigit() {
            char next = next();
            return next >= '0' && next <= '9';
        }

        /** Leaves a seventh digit unread, so that whatever comes next finds the fault there. */
        boolean readNumber() {
            number = 0;
            int digits = 0;
            for (; digits < MOST_DIGITS && seesDigit(); digits++) {
                number = number * 10 + (next() - '0');
                position++;
            }
            return digits > 0;
        }

        private char next() {
            boolean there = position >= 0 && position < length && position < characters.length;
            return there ? characters[position] : END;
        }
    }

    /** Reads the text as a calendar; its methods stop at the first character that cannot continue. */
    private static final class Reader {
        private final Text text;
        private final int[] lengths = new int[MOST_MONTHS];
        private final int[] divisors = new int[MOST_DIVISORS];
        private final boolean[] signs = new boolean[MOST_DIVISORS];
        private boolean possible;
        private int monthCount;
        private int commonLength;
        private int first;
        private int leap;
        private int leapMonth;
        private int extra;
        private int rule;
        private int divisorCount;
        private int remainders;
        private int period;
        private int weekLength;
        private int zeroWeekday;
        private int weekDay;

        Reader(Text text) {
            this.text = text;
        }

        boolean read() {
            reset();
            return readMonths() && readFirstDay() && readParts() && text.isAtEnd();
        }

        boolean isPossible() {
            return possible && commonLength >= 30;
        }

        int[] copyOfLengths() {
            return Arrays.copyOf(lengths, Math.max(0, Math.min(monthCount, MOST_MONTHS)));
        }

        /** For each remainder, and for the period itself, the leap years among the years from 0 below it. */
        int[] countLeaps() {
            int[] counts = new int[Math.max(1, Math.min(period, LONGEST_PERIOD)) + 1];
            for (int year = 0; year + 1 < counts.length; year++) {
                counts[year + 1] = counts[year] + (leapsBy(year) ? 1 : 0);
            }
            return counts;
        }

        private boolean leapsBy(int year) {
            if (rule == BY_CYCLE) {
                return (remainders >> year & 1) == 1;
            }
            boolean leaps = false;
            for (int i = 0; i < divisorCount && i < divisors.length && i < signs.length; i++) {
                if (divisors[i] > 0 && year % divisors[i] == 0) {
                    leaps = signs[i];
                }
            }
            return leaps;
        }

        private void reset() {
            text.rewind();
            possible = true;
            monthCount = 0;
            commonLength = 0;
            first = 0;
            leap = 0;
            leapMonth = 0;
            extra = 0;
            rule = 0;
            divisorCount = 0;
            remainders = 0;
            period = 1;
            weekLength = 7;
            zeroWeekday = 0;
            weekDay = 4;
        }

        /** A fault anywhere comes before what is not possible, so this is only noted while reading. */
        private void allow(int number, int low, int high) {
            if (!isFrom(number, low, high)) {
                possible = false;
            }
        }

        private boolean readMonths() {
            if (!text.accept('m') || !readMonth()) {
                return false;
            }
            for (int month = 1; month < MOST_MONTHS && text.accept(','); month++) {
                if (!readMonth()) {
                    return false;
                }
            }
            return true;
        }

        private boolean readMonth() {
            if (!text.readNumber()) {
                return false;
            }
            allow(text.number(), 1, 60);
            commonLength += text.number();
            if (monthCount >= 0 && monthCount < lengths.length) {
                lengths[monthCount] = text.number();
                monthCount++;
            }
            return true;
        }

        private boolean readFirstDay() {
            if (!text.accept(';') || !text.accept('e')) {
                return false;
            }
            boolean negative = text.accept('-');
            if (!text.readNumber()) {
                return false;
            }
            first = negative ? -text.number() : text.number();
            allow(first, -500000, 500000);
            return true;
        }

        /** The parts come in the order leap, rule, weeks; each can be left out. */
        private boolean readParts() {
            int stage = 0;
            for (int part = 0; part < 3 && stage < 3 && text.accept(';'); part++) {
                boolean whole = false;
                if (stage < 1 && text.accept('d')) {
                    stage = 1;
                    whole = readLeapDay();
                } else if (stage < 1 && text.accept('i')) {
                    stage = 1;
                    whole = readIntercalaryMonth();
                } else if (stage < 2 && text.accept('l')) {
                    stage = 2;
                    whole = readDivisors();
                } else if (stage < 2 && text.accept('c')) {
                    stage = 2;
                    whole = readCycle();
                } else if (text.accept('w')) {
                    stage = 3;
                    whole = readWeeks();
                }
                if (!whole) {
                    return false;
                }
            }
            return true;
        }

        private boolean readLeapDay() {
            if (!text.readNumber()) {
                return false;
            }
            leap = LEAP_DAY;
            leapMonth = text.number();
            extra = 1;
            allow(leapMonth, 1, monthCount);
            return true;
        }

        private boolean readIntercalaryMonth() {
            if (!text.readNumber()) {
                return false;
            }
            leap = INTERCALARY;
            leapMonth = text.number();
            allow(leapMonth, 1, monthCount);
            if (!text.accept(',') || !text.readNumber()) {
                return false;
            }
            extra = text.number();
            allow(extra, 1, 60);
            return true;
        }

        private boolean readDivisors() {
            rule = BY_DIVISORS;
            if (!readDivisor()) {
                return false;
            }
            for (int i = 1; i < MOST_DIVISORS && text.seesDigit(); i++) {
                if (!readDivisor()) {
                    return false;
                }
            }
            return true;
        }

        private boolean readDivisor() {
            if (!text.readNumber()) {
                return false;
            }
            int divisor = text.number();
            boolean positive = text.accept('+');
            if (!positive && !text.accept('-')) {
                return false;
            }
            if (divisorCount >= 0 && divisorCount < divisors.length && divisorCount < signs.length) {
                divisors[divisorCount] = divisor;
                signs[divisorCount] = positive;
                divisorCount++;
            }
            widenPeriod(divisor);
            return true;
        }

        /** Makes the period the least common multiple of itself and the divisor. */
        private void widenPeriod(int divisor) {
            if (divisor < 1 || divisor > 400) {
                possible = false;
                return;
            }
            int multiple = period;
            for (int i = 0; i < LONGEST_PERIOD && multiple <= LONGEST_PERIOD && multiple % divisor != 0; i++) {
                multiple += period;
            }
            if (multiple > LONGEST_PERIOD) {
                possible = false;
            } else {
                period = multiple;
            }
        }

        private boolean readCycle() {
            if (!text.readNumber()) {
                return false;
            }
            rule = BY_CYCLE;
            period = text.number();
            allow(period, 1, LONGEST_CYCLE);
            if (!text.accept(':') || !readRemainder()) {
                return false;
            }
            for (int i = 0; i < MOST_CHARACTERS && text.accept(','); i++) {
                if (!readRemainder()) {
                    return false;
                }
            }
            return true;
        }

        private boolean readRemainder() {
            if (!text.readNumber()) {
                return false;
            }
            allow(text.number(), 0, period - 1);
            if (text.number() < LONGEST_CYCLE) {
                remainders |= 1 << text.number();
            }
            return true;
        }

        private boolean readWeeks() {
            if (!text.readNumber()) {
                return false;
            }
            weekLength = text.number();
            allow(weekLength, 2, 10);
            if (!text.accept(',') || !text.readNumber()) {
                return false;
            }
            zeroWeekday = text.number();
            allow(zeroWeekday, 0, weekLength - 1);
            if (!text.accept(',') || !text.readNumber()) {
                return false;
            }
            weekDay = text.number();
            allow(weekDay, 1, weekLength);
            return true;
        }
    }

    /** One calendar; it never changes, so that several states can share it. */
    private static final class Calendar {
        private final int[] lengths;
        private final int commonLength;
        private final int first;
        private final int leap;
        private final int leapMonth;
        private final int extra;
        private final int rule;
        private final int period;
        private final int[] leapCounts;
        private final int weekLength;
        private final int zeroWeekday;
        private final int weekDay;
        private final int startOfZero;
        private final int begin;
        private final int end;

        Calendar(Reader reader) {
            lengths = reader.copyOfLengths();
            commonLength = reader.commonLength;
            first = reader.first;
            leap = reader.leap;
            leapMonth = reader.leapMonth;
            extra = reader.extra;
            rule = reader.rule;
            leapCounts = reader.countLeaps();
            period = leapCounts.length - 1;
            weekLength = reader.weekLength;
            zeroWeekday = reader.zeroWeekday;
            weekDay = reader.weekDay;
            startOfZero = first - lengthOfYear(0);
            begin = startOfYear(FIRST_YEAR);
            end = startOfYear(LAST_YEAR + 1);
        }

        int commonMonths() {
            return lengths.length;
        }

        int describe(int part) {
            switch (part) {
                case 0: return lengths.length;
                case 1: return first;
                case 2: return leap;
                case 3: return rule;
                case 4: return weekLength;
                case 5: return zeroWeekday;
                case 6: return weekDay;
                default: return period;
            }
        }

        double averageLength() {
            int leapYears = leapYearsBefore(period);
            int days = period * commonLength + leapYears * extra;
            return period > 0 ? (double) days / (double) period : 0.0;
        }

        boolean leaps(int year) {
            int remainder = period > 0 ? Math.floorMod(year, period) : 0;
            if (remainder < 0 || remainder + 1 >= leapCounts.length) {
                return false;
            }
            return leapCounts[remainder + 1] > leapCounts[remainder];
        }

        int monthCount(int year) {
            return monthCountIn(leaps(year));
        }

        boolean hasMonth(int year, int month) {
            return isYear(year) && isFrom(month, 1, monthCount(year));
        }

        int lengthOfMonth(int year, int month) {
            return lengthIn(leaps(year), month);
        }

        boolean insertsMonth(int year, int month) {
            return leap == INTERCALARY && month == leapMonth + 1 && leaps(year);
        }

        int lengthOfYear(int year) {
            return leaps(year) ? commonLength + extra : commonLength;
        }

        int startOfYear(int year) {
            return startOfZero + year * commonLength + leapYearsBefore(year) * extra;
        }

        int startOfMonth(int year, int month) {
            boolean inLeapYear = leaps(year);
            int start = startOfYear(year);
            for (int i = 1; i < month && i <= MOST_MONTHS; i++) {
                start += lengthIn(inLeapYear, i);
            }
            return start;
        }

        /** NONE if there is no such date. */
        int dayOfDate(int year, int month, int dayOfMonth) {
            if (!hasMonth(year, month) || !isFrom(dayOfMonth, 1, lengthOfMonth(year, month))) {
                return NONE;
            }
            return startOfMonth(year, month) + dayOfMonth - 1;
        }

        /** The last month stands for one that the year does not have, as does the last day. */
        int nearestDay(int year, int month, int dayOfMonth) {
            int nearestMonth = Math.min(month, monthCount(year));
            int nearestDay = Math.min(dayOfMonth, lengthOfMonth(year, nearestMonth));
            return startOfMonth(year, nearestMonth) + nearestDay - 1;
        }

        boolean holds(int day) {
            return day >= begin && day < end;
        }

        /** NONE if the day is outside the calendar. */
        int yearOf(int day) {
            if (!holds(day)) {
                return NONE;
            }
            int low = FIRST_YEAR;
            int high = LAST_YEAR;
            for (int i = 0; i < SEARCH_STEPS && low < high; i++) {
                int middle = low + (high - low + 1) / 2;
                if (startOfYear(middle) <= day) {
                    low = middle;
                } else {
                    high = middle - 1;
                }
            }
            return low;
        }

        int monthOf(int year, int day) {
            boolean inLeapYear = leaps(year);
            int last = monthCountIn(inLeapYear);
            int next = startOfYear(year) + lengthIn(inLeapYear, 1);
            int month = 1;
            for (; month < last && next <= day; month++) {
                next += lengthIn(inLeapYear, month + 1);
            }
            return month;
        }

        int dayOfMonth(int year, int day) {
            return day - startOfMonth(year, monthOf(year, day)) + 1;
        }

        int partOfDate(int year, int day, int part) {
            switch (part) {
                case 0: return year;
                case 1: return monthOf(year, day);
                case 2: return dayOfMonth(year, day);
                case 3: return day - startOfYear(year) + 1;
                default: return weekdayOf(day);
            }
        }

        int weekdayOf(int day) {
            return weekLength > 0 ? Math.floorMod(day + zeroWeekday, weekLength) : 0;
        }

        int startOfWeek(int year, int week) {
            int inside = startOfYear(year) + weekDay - 1;
            return inside - weekdayOf(inside) + (week - 1) * weekLength;
        }

        int weekCount(int year) {
            int days = startOfWeek(year + 1, 1) - startOfWeek(year, 1);
            return weekLength > 0 ? days / weekLength : 0;
        }

        int weekYearOf(int year, int day) {
            if (day < startOfWeek(year, 1)) {
                return year - 1;
            }
            return day >= startOfWeek(year + 1, 1) ? year + 1 : year;
        }

        int weekNumber(int weekYear, int day) {
            int days = day - startOfWeek(weekYear, 1);
            return weekLength > 0 ? days / weekLength + 1 : 1;
        }

        /** NONE if one of the days is outside the calendar. */
        int yearsLater(int day, int years) {
            int year = yearOf(day);
            if (year == NONE || !isYear(year + years)) {
                return NONE;
            }
            return nearestDay(year + years, monthOf(year, day), dayOfMonth(year, day));
        }

        /** NONE if one of the days is outside the calendar. */
        int monthsLater(int day, int months) {
            int year = yearOf(day);
            if (year == NONE) {
                return NONE;
            }
            int target = monthsBefore(year) + monthOf(year, day) - 1 + months;
            int targetYear = yearOfCountedMonth(target);
            if (targetYear == NONE) {
                return NONE;
            }
            return nearestDay(targetYear, target - monthsBefore(targetYear) + 1, dayOfMonth(year, day));
        }

        /** The whole months between two days inside; a month later is always a later month. */
        int monthsBetween(int from, int to) {
            int months = countedMonthOf(to) - countedMonthOf(from);
            return monthsLater(from, months) > to ? months - 1 : months;
        }

        /** The day in a month that is its first, second .. or, by -1, its last with a weekday; or NONE. */
        int weekdayInMonth(int year, int month, int number, int weekday) {
            if (weekday >= weekLength || weekLength < 1) {
                return NONE;
            }
            int nearestMonth = Math.min(month, monthCount(year));
            int start = startOfMonth(year, nearestMonth);
            int last = start + lengthOfMonth(year, nearestMonth) - 1;
            int day;
            if (number < 0) {
                day = last - Math.floorMod(weekdayOf(last) - weekday, weekLength);
            } else {
                day = start + Math.floorMod(weekday - weekdayOf(start), weekLength) + (number - 1) * weekLength;
            }
            return isFrom(day, start, last) ? day : NONE;
        }

        /** The first day not before a day that has a weekday; NONE if it is not reached inside. */
        int nextWeekday(int day, int weekday) {
            if (weekday >= weekLength || weekLength < 1 || !holds(day)) {
                return NONE;
            }
            int next = day + Math.floorMod(weekday - weekdayOf(day), weekLength);
            return holds(next) ? next : NONE;
        }

        /** The first of 400 days from a day on that has a number in its month; NONE if it is not reached inside. */
        int nextNumbered(int day, int number) {
            int year = yearOf(day);
            if (year == NONE) {
                return NONE;
            }
            int month = monthOf(year, day);
            int start = startOfMonth(year, month);
            boolean inLeapYear = leaps(year);
            for (int i = 0; i < 2 * SEARCHED_DAYS && start < day + SEARCHED_DAYS; i++) {
                int length = lengthIn(inLeapYear, month);
                int numbered = start + number - 1;
                if (number <= length && numbered >= day) {
                    return numbered < day + SEARCHED_DAYS ? numbered : NONE;
                }
                start += length;
                month++;
                if (month > monthCountIn(inLeapYear)) {
                    month = 1;
                    year++;
                    inLeapYear = leaps(year);
                }
                if (year > LAST_YEAR) {
                    return NONE;
                }
            }
            return NONE;
        }

        private int monthCountIn(boolean inLeapYear) {
            return inLeapYear && leap == INTERCALARY ? lengths.length + 1 : lengths.length;
        }

        private int lengthIn(boolean inLeapYear, int month) {
            int index = month - 1;
            if (inLeapYear && leap == INTERCALARY && month > leapMonth) {
                if (month == leapMonth + 1) {
                    return extra;
                }
                index--;
            }
            int length = index >= 0 && index < lengths.length ? lengths[index] : 0;
            return inLeapYear && leap == LEAP_DAY && month == leapMonth ? length + extra : length;
        }

        /** The leap years from the year 0 up to the one before; less than 0 before the year 0. */
        private int leapYearsBefore(int year) {
            if (period < 1 || period >= leapCounts.length) {
                return 0;
            }
            int rounds = Math.floorDiv(year, period);
            int remainder = year - rounds * period;
            if (remainder < 0 || remainder >= leapCounts.length) {
                return 0;
            }
            return rounds * leapCounts[period] + leapCounts[remainder];
        }

        private int monthsBefore(int year) {
            int common = year * lengths.length;
            return leap == INTERCALARY ? common + leapYearsBefore(year) : common;
        }

        private int countedMonthOf(int day) {
            int year = yearOf(day);
            return year == NONE ? 0 : monthsBefore(year) + monthOf(year, day) - 1;
        }

        private int yearOfCountedMonth(int counted) {
            if (counted < monthsBefore(FIRST_YEAR) || counted >= monthsBefore(LAST_YEAR + 1)) {
                return NONE;
            }
            int low = FIRST_YEAR;
            int high = LAST_YEAR;
            for (int i = 0; i < SEARCH_STEPS && low < high; i++) {
                int middle = low + (high - low + 1) / 2;
                if (monthsBefore(middle) <= counted) {
                    low = middle;
                } else {
                    high = middle - 1;
                }
            }
            return low;
        }
    }

    /** One feast as it was added; it never changes. */
    private static final class Feast {
        private static final int DATE = 0;
        private static final int WEEKDAY_IN_MONTH = 1;
        private static final int DAYS_AFTER = 2;
        private static final int NEXT_WEEKDAY = 3;

        private final int rule;
        private final int rank;
        private final int which;
        private final int a;
        private final int b;
        private final int c;

        Feast(int rule, int rank, int which, int a, int b, int c) {
            this.rule = rule;
            this.rank = rank;
            this.which = which;
            this.a = a;
            this.b = b;
            this.c = c;
        }
    }

    /** What changes can change: the calendars and the feasts. */
    private static final class State {
        private final Calendar[] calendars = new Calendar[MOST_CALENDARS];
        private final Feast[] feasts = new Feast[MOST_FEASTS];
        private int calendarCount;
        private int feastCount;

        int calendarCount() {
            return calendarCount;
        }

        int feastCount() {
            return feastCount;
        }

        /** null if there is none. */
        Calendar calendarAt(int index) {
            boolean there = index >= 0 && index < calendarCount && index < calendars.length;
            return there ? calendars[index] : null;
        }

        /** null if there is none. */
        Feast feastAt(int index) {
            boolean there = index >= 0 && index < feastCount && index < feasts.length;
            return there ? feasts[index] : null;
        }

        void setCalendarAt(int index, Calendar calendar) {
            if (index >= 0 && index < calendars.length) {
                calendars[index] = calendar;
                calendarCount = Math.max(calendarCount, index + 1);
            }
        }

        void addLastFeast(Feast feast) {
            if (feastCount >= 0 && feastCount < feasts.length) {
                feasts[feastCount] = feast;
                feastCount++;
            }
        }

        void removeLastFeast() {
            feastCount = Math.max(0, feastCount - 1);
        }

        void copyFrom(State other) {
            for (int i = 0; i < calendars.length; i++) {
                calendars[i] = other.calendarAt(i);
            }
            for (int i = 0; i < feasts.length; i++) {
                feasts[i] = other.feastAt(i);
            }
            calendarCount = other.calendarCount;
            feastCount = other.feastCount;
        }
    }

    /** The states before the latest changes, the latest of them last. */
    private static final class History {
        private final State[] states = new State[MOST_CHANGES];
        private int count;

        History() {
            for (int i = 0; i < states.length; i++) {
                states[i] = new State();
            }
        }

        int count() {
            return count;
        }

        void keep(State state) {
            if (count >= states.length) {
                forgetOldest();
            }
            State slot = stateAt(count);
            if (slot != null) {
                slot.copyFrom(state);
                count++;
            }
        }

        void takeBack(State state) {
            State slot = stateAt(count - 1);
            if (slot != null) {
                state.copyFrom(slot);
                count--;
            }
        }

        /** The oldest goes to the end, to be written again: no run makes more states than these. */
        private void forgetOldest() {
            State oldest = stateAt(0);
            for (int i = 0; i + 1 < states.length; i++) {
                states[i] = states[i + 1];
            }
            if (states.length > 0) {
                states[states.length - 1] = oldest;
            }
            count = states.length - 1;
        }

        private State stateAt(int index) {
            return index >= 0 && index < states.length ? states[index] : null;
        }
    }

    /** The days of the feasts in one year, and where they are placed; found anew for each call. */
    private static final class FeastDays {
        private final int[] days = new int[MOST_FEASTS];
        private final int[] places = new int[MOST_FEASTS];

        /** Finds the days of the first feasts; each later one can ask for the earlier ones. */
        void find(State state, int count, int year) {
            Arrays.fill(days, NONE);
            for (int i = 0; i < count && i < days.length; i++) {
                Feast feast = state.feastAt(i);
                if (feast != null) {
                    int day = dayBy(state, feast, year);
                    days[i] = isDay(day) ? day : NONE;
                }
            }
        }

        void place(State state) {
            Arrays.fill(places, NONE);
            for (int rank = GREATEST_RANK; rank >= 0; rank--) {
                for (int i = 0; i < places.length && i < days.length; i++) {
                    Feast feast = state.feastAt(i);
                    if (feast != null && feast.rank == rank && days[i] != NONE) {
                        places[i] = firstFree(days[i]);
                    }
                }
            }
        }

        int dayAt(int feast) {
            return feast >= 0 && feast < days.length ? days[feast] : NONE;
        }

        int placeAt(int feast) {
            return feast >= 0 && feast < places.length ? places[feast] : NONE;
        }

        /** -1 if there is none. */
        int feastPlacedOn(int day) {
            for (int i = 0; i < places.length; i++) {
                if (places[i] == day) {
                    return i;
                }
            }
            return -1;
        }

        private int dayBy(State state, Feast feast, int year) {
            boolean isFirst = feast.rule == Feast.DATE || feast.rule == Feast.WEEKDAY_IN_MONTH;
            int earlier = isFirst ? NONE : dayAt(feast.which);
            if (!isFirst && earlier == NONE) {
                return NONE;
            }
            if (feast.rule == Feast.DAYS_AFTER) {
                return earlier + feast.a;
            }
            Calendar own = state.calendarAt(isFirst ? feast.which : feast.a);
            if (own == null) {
                return NONE;
            }
            switch (feast.rule) {
                case Feast.DATE: return own.nearestDay(year, feast.a, feast.b);
                case Feast.WEEKDAY_IN_MONTH: return own.weekdayInMonth(year, feast.a, feast.b, feast.c);
                case Feast.NEXT_WEEKDAY: return own.nextWeekday(earlier, feast.b);
                default: return own.nextNumbered(earlier, feast.b);
            }
        }

        private int firstFree(int day) {
            int free = day;
            for (int i = 0; i < MOST_FEASTS && feastPlacedOn(free) >= 0; i++) {
                free++;
            }
            return free;
        }
    }

    /** The readings found last, in their order. */
    private static final class Readings {
        private final int[] calendars = new int[MOST_READINGS];
        private final int[] orders = new int[MOST_READINGS];
        private final int[] days = new int[MOST_READINGS];
        private int count;

        int count() {
            return count;
        }

        void clear() {
            count = 0;
        }

        /** Readings come by calendars and orders, so one goes behind those of the same day. */
        void addIfDay(int calendar, int order, int day) {
            if (!isDay(day) || count < 0 || count >= MOST_READINGS) {
                return;
            }
            int place = count;
            for (; place > 0 && place < MOST_READINGS && days[place - 1] > day; place--) {
                calendars[place] = calendars[place - 1];
                orders[place] = orders[place - 1];
                days[place] = days[place - 1];
            }
            if (place >= 0 && place < MOST_READINGS) {
                calendars[place] = calendar;
                orders[place] = order;
                days[place] = day;
            }
            count++;
        }

        int partAt(int index, int part) {
            if (index < 0 || index >= MOST_READINGS) {
                return 0;
            }
            if (part == 0) {
                return calendars[index];
            }
            return part == 1 ? orders[index] : days[index];
        }

        int distinctDays() {
            int distinct = 0;
            for (int i = 0; i < count && i < MOST_READINGS; i++) {
                if (i == 0 || days[i] != days[i - 1]) {
                    distinct++;
                }
            }
            return distinct;
        }
    }
}
