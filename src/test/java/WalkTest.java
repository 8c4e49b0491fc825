import java.util.Random;

/**
 * Calendars from fixed seeds, walked day by day from the year -2000 to the year 2000 with nothing but counters: the
 * promises on years, months, dates and weeks hold on every day.
 */
public final class WalkTest {
    private static final int WALKS = 8;
    private static final int FIRST = -2000;
    private static final int LAST = 2000;
    /** The walk begins earlier, so that the week of its first days is known. */
    private static final int BEGIN = FIRST - 3;
    private static final int MARGIN = 3;
    private static final int MOST_DAY = 999999;
    private static final int MOST_CALLS = 512;
    private static final int[] DIVISORS = {1, 2, 3, 4, 5, 6, 8, 10, 12, 20, 25, 40, 50, 100, 125, 200, 250, 300, 400};

    private final Random random;
    private final StringBuilder text = new StringBuilder("m");
    private final int[] lengths;
    private final boolean[] leaps = new boolean[LAST - BEGIN + 1 + MARGIN];
    private final int[] starts = new int[leaps.length + 1];
    private int leap;
    private int leapMonth;
    private int extra;
    private int weekLength = 7;
    private int zeroWeekday = 0;
    private int k = 4;
    private CalendarConverter converter;
    private int calls = MOST_CALLS;
    private long asked = 0;
    private String wrong = "nothing";

    private WalkTest(long seed) {
        random = new Random(seed);
        lengths = new int[from(1, 14)];
    }

    public static void main(String[] args) {
        int walks = args.length > 0 ? Integer.parseInt(args[0]) : WALKS;
        int base = args.length > 1 ? Integer.parseInt(args[1]) : 0;
        long asked = 0;
        for (int seed = base; seed < base + walks; seed++) {
            WalkTest walk = new WalkTest(seed);
            walk.draw();
            walk.walk();
            Due.same("wrong in the walk through " + walk.text, "nothing", walk.wrong);
            asked += walk.asked;
        }
        System.out.println("answers on walks: " + asked);
        Due.end("WalkTest");
    }

    private int from(int low, int high) {
        return low + random.nextInt(high - low + 1);
    }

    // ---- a calendar and its text ----

    private void draw() {
        boolean few = random.nextInt(3) == 0;
        for (int i = 0; i < lengths.length; i++) {
            lengths[i] = i == lengths.length - 1 ? from(30, 60) : from(1, few ? 6 : 60);
            text.append(i == 0 ? "" : ",").append(lengths[i]);
        }
        int first = random.nextBoolean() ? from(-1000, 1000) : from(-500000, 500000);
        text.append(";e").append(first);
        drawLeap();
        drawRule();
        if (random.nextInt(3) > 0) {
            weekLength = from(2, 10);
            zeroWeekday = from(0, weekLength - 1);
            k = from(1, weekLength);
            text.append(";w").append(weekLength).append(',').append(zeroWeekday).append(',').append(k);
        }
        stepThroughYears(first);
    }

    private void drawLeap() {
        leap = from(0, 4) / 2;
        leapMonth = from(1, lengths.length);
        if (leap == 1) {
            extra = 1;
            text.append(";d").append(leapMonth);
        } else if (leap == 2) {
            extra = from(1, 60);
            text.append(";i").append(leapMonth).append(',').append(extra);
        }
    }

    /** Marks the leap years by going through the multiples, so that no remainder is taken. */
    private void drawRule() {
        int rule = from(0, 4);
        int room = 90 - text.length();
        if (rule < 2 && room > 20) {
            text.append(";l");
            int divisor = DIVISORS[from(0, DIVISORS.length - 1)];
            for (int count = from(1, 3); count > 0; count--) {
                boolean positive = random.nextInt(3) > 0;
                text.append(divisor).append(positive ? '+' : '-');
                mark(0, divisor, positive);
                divisor = divisor <= 200 && random.nextInt(3) > 0 ? 2 * divisor : from(1, 2);
            }
        } else if (rule < 4 && room > 20) {
            int cycle = from(1, 30);
            text.append(";c").append(cycle).append(':');
            for (int count = from(1, 5); count > 0; count--) {
                int remainder = from(0, cycle - 1);
                text.append(remainder).append(count > 1 ? "," : "");
                mark(remainder, cycle, true);
            }
        }
    }

    private void mark(int year, int step, boolean value) {
        int earliest = year;
        while (earliest >= BEGIN) {
            earliest -= step;
        }
        for (int i = earliest + step - BEGIN; i < leaps.length; i += step) {
            leaps[i] = value;
        }
    }

    private void stepThroughYears(int first) {
        int common = 0;
        for (int length : lengths) {
            common += length;
        }
        starts[1 - BEGIN] = first;
        for (int i = 1 - BEGIN; i < leaps.length; i++) {
            starts[i + 1] = starts[i] + common + (leaps[i] ? extra : 0);
        }
        for (int i = -BEGIN; i >= 0; i--) {
            starts[i] = starts[i + 1] - common - (leaps[i] ? extra : 0);
        }
    }

    // ---- the walk ----

    /** An object answers 512 calls, those that give it the text among them. */
    private CalendarConverter x() {
        if (calls >= MOST_CALLS) {
            converter = new CalendarConverter();
            for (int i = 0; i < text.length(); i++) {
                converter.appendCharacter(text.charAt(i));
            }
            Due.is("months of " + text, lengths.length, () -> converter.setCalendar(1));
            calls = text.length() + 1;
        }
        calls++;
        return converter;
    }

    private void same(String what, int where, int due, int got) {
        asked++;
        if (due != got && wrong.equals("nothing")) {
            wrong = what + " of " + where + ": " + got + ", due is " + due;
        }
    }

    private void walk() {
        int day = starts[0];
        int weekday = Math.floorMod(day + zeroWeekday, weekLength);
        int weekYear = BEGIN - 1;
        int week = 0;
        for (int year = BEGIN; year <= LAST + 1; year++) {
            boolean inside = year >= FIRST && year <= LAST;
            int[] months = monthsOf(year);
            if (inside) {
                askYear(year, months);
            }
            int month = 1;
            int dayOfMonth = 1;
            for (int dayOfYear = 1; day < starts[year + 1 - BEGIN]; dayOfYear++) {
                if (weekday == 0) {
                    week++;
                    for (int begun = year; begun <= year + 1; begun++) {
                        int dayOne = starts[begun - BEGIN] + k - 1;
                        if (dayOne >= day && dayOne < day + weekLength) {
                            askWeekYear(weekYear, week - 1);
                            weekYear = begun;
                            week = 1;
                        }
                    }
                    askWeek(weekYear, week, day);
                }
                if (inside && Math.abs(day) <= MOST_DAY) {
                    askDate(day, year, month, dayOfMonth);
                    same("day of the year", day, dayOfYear, x().date(1, day, 3));
                    same("weekday", day, weekday, x().date(1, day, 4));
                    same("week year", day, weekYear, x().week(1, day, 0));
                    same("week", day, week, x().week(1, day, 1));
                }
                day++;
                weekday = weekday == weekLength - 1 ? 0 : weekday + 1;
                dayOfMonth++;
                if (dayOfMonth > Math.abs(months[month - 1])) {
                    dayOfMonth = 1;
                    month++;
                }
            }
        }
    }

    /** The lengths of the months; that of an intercalary one is less than 0. */
    private int[] monthsOf(int year) {
        boolean inLeapYear = leaps[year - BEGIN];
        int[] months = new int[inLeapYear && leap == 2 ? lengths.length + 1 : lengths.length];
        int next = 0;
        for (int i = 0; i < lengths.length; i++) {
            months[next++] = inLeapYear && leap == 1 && i == leapMonth - 1 ? lengths[i] + 1 : lengths[i];
            if (inLeapYear && leap == 2 && i == leapMonth - 1) {
                months[next++] = -extra;
            }
        }
        return months;
    }

    private void askYear(int year, int[] months) {
        int at = year - BEGIN;
        same("leap year", year, leaps[at] ? 1 : 0, x().isLeapYear(1, year) ? 1 : 0);
        same("first day", year, starts[at], x().firstDay(1, year));
        same("length of the year", year, starts[at + 1] - starts[at], x().yearLength(1, year));
        same("months", year, months.length, x().months(1, year));
        for (int i = 0; i < months.length; i++) {
            same("length of a month", year, Math.abs(months[i]), x().monthLength(1, year, i + 1));
            same("intercalary month", year, months[i] < 0 ? 1 : 0, x().isIntercalary(1, year, i + 1) ? 1 : 0);
        }
    }

    private void askDate(int day, int year, int month, int dayOfMonth) {
        same("year", day, year, x().date(1, day, 0));
        same("month", day, month, x().date(1, day, 1));
        same("day of the month", day, dayOfMonth, x().date(1, day, 2));
        same("day", day, day, x().dayOf(1, year, month, dayOfMonth));
    }

    private void askWeekYear(int weekYear, int weeks) {
        if (weekYear >= FIRST && weekYear <= LAST) {
            same("weeks", weekYear, weeks, x().weeks(1, weekYear));
        }
    }

    private void askWeek(int weekYear, int week, int day) {
        if (weekYear >= FIRST && weekYear <= LAST) {
            same("first day of a week", weekYear, day, x().firstDayOfWeek(1, weekYear, week));
        }
    }
}
