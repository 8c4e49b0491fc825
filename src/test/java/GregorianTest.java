import java.time.LocalDate;
import java.time.temporal.IsoFields;

/** Calendar 0 against java.time, whose calendar and weeks are the same. */
public final class GregorianTest {
    /** The day 0 as java.time counts days. */
    private static final int SHIFT = -719162;
    /** An object answers 512 calls, and a day takes up to 10. */
    private static final int DAYS_PER_OBJECT = 50;

    private GregorianTest() {
    }

    public static void main(String[] args) {
        CalendarConverter x = new CalendarConverter();
        int compared = 0;
        LocalDate first = LocalDate.of(-2000, 1, 1);
        int last = x.firstDay(0, 2000) + x.yearLength(0, 2000) - 1;
        same("the last day", LocalDate.of(2000, 12, 31).toEpochDay(), last + SHIFT);
        same("the first day", first.toEpochDay(), x.firstDay(0, -2000) + SHIFT);
        for (int day = (int) first.toEpochDay() - SHIFT; day <= last; day++) {
            LocalDate date = LocalDate.ofEpochDay(day + SHIFT);
            if (date.getDayOfMonth() > 3 && date.getDayOfMonth() < 26) {
                continue;
            }
            if (compared % DAYS_PER_OBJECT == 0) {
                x = new CalendarConverter();
            }
            compared++;
            same("year of " + day, date.getYear(), x.date(0, day, 0));
            same("month of " + day, date.getMonthValue(), x.date(0, day, 1));
            same("day of " + day, date.getDayOfMonth(), x.date(0, day, 2));
            same("day of the year of " + day, date.getDayOfYear(), x.date(0, day, 3));
            same("weekday of " + day, date.getDayOfWeek().getValue() - 1, x.date(0, day, 4));
            same("week year of " + day, date.get(IsoFields.WEEK_BASED_YEAR), x.week(0, day, 0));
            same("week of " + day, date.get(IsoFields.WEEK_OF_WEEK_BASED_YEAR), x.week(0, day, 1));
            same("date " + date, day, x.dayOf(0, date.getYear(), date.getMonthValue(), date.getDayOfMonth()));
            LocalDate months = date.plusMonths(day % 997);
            if (!months.isBefore(first) && months.getYear() <= 2000) {
                same("months after " + day, months.toEpochDay() - SHIFT, x.plus(0, day, day % 997));
            }
            LocalDate years = date.plusYears(day % 97);
            if (!years.isBefore(first) && years.getYear() <= 2000) {
                same("years after " + day, years.toEpochDay() - SHIFT, x.plusYears(0, day, day % 97));
            }
        }
        Due.end("GregorianTest");
    }

    private static void same(String what, long due, long got) {
        Due.same(what, String.valueOf(due), String.valueOf(got));
    }
}
