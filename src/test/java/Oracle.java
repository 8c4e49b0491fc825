import java.util.ArrayDeque;
import java.util.ArrayList;
import java.util.Comparator;
import java.util.HashSet;
import java.util.List;
import java.util.NoSuchElementException;
import java.util.Set;
import java.util.regex.Matcher;
import java.util.regex.Pattern;

/** The document read a second time, by the slowest and most literal way: walks day by day and month by month. */
final class Oracle {
    static final int MAX_DAY = 999999;

    private final StringBuilder text = new StringBuilder();
    private int fault = -1;
    private List<Cal> cals = new ArrayList<>();
    private List<int[]> feasts = new ArrayList<>();
    private List<Object[]> savedState = null;
    private final ArrayDeque<List<Object[]>> history = new ArrayDeque<>();
    private List<int[]> found = new ArrayList<>();
    private String written = "";

    Oracle() {
        cals.add(new Cal("m31,28,31,30,31,30,31,31,30,31,30,31;e0;d2;l4+100-400+"));
    }

    // ---- texts ----

    private static final String N = "([0-9]{1,6})";
    private static final Pattern FORM = Pattern.compile("m" + N + "((?:," + N + "){0,13});e(-?[0-9]{1,6})"
        + "(?:;d" + N + "|;i" + N + "," + N + ")?"
        + "(?:;l((?:[0-9]{1,6}[+-]){1,4})|;c" + N + ":([0-9]{1,6}(?:,[0-9]{1,6})*))?"
        + "(?:;w" + N + "," + N + "," + N + ")?");

    /** -1, or the number of characters after which no further character was possible. */
    static int faultOf(String text) {
        if (FORM.matcher(text).matches()) {
            return -1;
        }
        for (int length = text.length(); length >= 0; length--) {
            Matcher matcher = FORM.matcher(text.substring(0, length));
            boolean whole = matcher.matches();
            if (whole || matcher.hitEnd()) {
                return length;
            }
        }
        throw new AssertionError(text);
    }

    static final class Impossible extends RuntimeException {
        private static final long serialVersionUID = 1L;
    }

    static final class Cal {
        final List<Integer> lengths = new ArrayList<>();
        final List<Integer> divisors = new ArrayList<>();
        final List<Boolean> signs = new ArrayList<>();
        final Set<Integer> remainders = new HashSet<>();
        int first;
        int leap;
        int leapMonth;
        int leapLength;
        int rule;
        int cycle;
        int period = 1;
        int weekLength = 7;
        int zeroWeekday = 0;
        int k = 4;
        final int[] starts = new int[4010];

        Cal(String text) {
            Matcher m = FORM.matcher(text);
            need(m.matches());
            lengths.add(Integer.parseInt(m.group(1)));
            for (String more : m.group(2).split(",")) {
                if (!more.isEmpty()) {
                    lengths.add(Integer.parseInt(more));
                }
            }
            first = Integer.parseInt(m.group(4));
            if (m.group(5) != null) {
                leap = 1;
                leapMonth = Integer.parseInt(m.group(5));
            }
            if (m.group(6) != null) {
                leap = 2;
                leapMonth = Integer.parseInt(m.group(6));
                leapLength = Integer.parseInt(m.group(7));
                need(leapLength >= 1 && leapLength <= 60);
            }
            need(leap == 0 || leapMonth >= 1 && leapMonth <= lengths.size());
            if (m.group(8) != null) {
                readDivisors(m.group(8));
            }
            if (m.group(9) != null) {
                readCycle(m.group(9), m.group(10));
            }
            if (m.group(11) != null) {
                weekLength = Integer.parseInt(m.group(11));
                zeroWeekday = Integer.parseInt(m.group(12));
                k = Integer.parseInt(m.group(13));
            }
            int sum = 0;
            for (int length : lengths) {
                need(length >= 1 && length <= 60);
                sum += length;
            }
            need(sum >= 30 && first >= -500000 && first <= 500000);
            need(weekLength >= 2 && weekLength <= 10 && zeroWeekday < weekLength && k >= 1 && k <= weekLength);
            walkYears();
        }

        private void readDivisors(String list) {
            rule = 1;
            Matcher m = Pattern.compile("([0-9]+)([+-])").matcher(list);
            while (m.find()) {
                divisors.add(Integer.parseInt(m.group(1)));
                signs.add(m.group(2).equals("+"));
            }
            for (int divisor : divisors) {
                need(divisor >= 1 && divisor <= 400);
            }
            while (!dividesPeriod()) {
                period++;
                need(period <= 1000);
            }
        }

        private boolean dividesPeriod() {
            for (int divisor : divisors) {
                if (period % divisor != 0) {
                    return false;
                }
            }
            return true;
        }

        private void readCycle(String number, String list) {
            rule = 2;
            cycle = Integer.parseInt(number);
            need(cycle >= 1 && cycle <= 30);
            period = cycle;
            for (String one : list.split(",")) {
                remainders.add(Integer.parseInt(one));
                need(Integer.parseInt(one) < cycle);
            }
        }

        private static void need(boolean holds) {
            if (!holds) {
                throw new Impossible();
            }
        }

        private void walkYears() {
            int start = first;
            for (int year = 1; year <= 2005; year++) {
                starts[year + 2003] = start;
                start += yearLength(year);
            }
            start = first;
            for (int year = 0; year >= -2003; year--) {
                start -= yearLength(year);
                starts[year + 2003] = start;
            }
        }

        static int rem(int year, int by) {
            int rest = year % by;
            return rest < 0 ? rest + by : rest;
        }

        boolean leaps(int year) {
            if (rule == 2) {
                return remainders.contains(rem(year, cycle));
            }
            for (int i = divisors.size() - 1; i >= 0; i--) {
                if (rem(year, divisors.get(i)) == 0) {
                    return signs.get(i);
                }
            }
            return false;
        }

        /** The lengths of the months; an intercalary one as its negative. */
        List<Integer> monthsOf(int year) {
            List<Integer> all = new ArrayList<>(lengths);
            if (leaps(year) && leap == 1) {
                all.set(leapMonth - 1, all.get(leapMonth - 1) + 1);
            }
            if (leaps(year) && leap == 2) {
                all.add(leapMonth, -leapLength);
            }
            return all;
        }

        int yearLength(int year) {
            int sum = 0;
            for (int length : monthsOf(year)) {
                sum += Math.abs(length);
            }
            return sum;
        }

        int start(int year) {
            return starts[year + 2003];
        }

        /** Year, month, day of the month, day of the year, length of the month; null if outside. */
        int[] date(int day) {
            if (day < start(-2000) || day >= start(2001)) {
                return null;
            }
            int year = -2000;
            while (year + 100 <= 2000 && start(year + 100) <= day) {
                year += 100;
            }
            while (start(year + 1) <= day) {
                year++;
            }
            int left = day - start(year);
            int month = 1;
            for (int length : monthsOf(year)) {
                if (left < Math.abs(length)) {
                    return new int[] {year, month, left + 1, day - start(year) + 1};
                }
                left -= Math.abs(length);
                month++;
            }
            throw new AssertionError();
        }

        Integer dayOf(int year, int month, int dayOfMonth) {
            if (year < -2000 || year > 2000) {
                return null;
            }
            List<Integer> months = monthsOf(year);
            if (month < 1 || month > months.size()) {
                return null;
            }
            if (dayOfMonth < 1 || dayOfMonth > Math.abs(months.get(month - 1))) {
                return null;
            }
            int day = start(year) + dayOfMonth - 1;
            for (int i = 0; i < month - 1; i++) {
                day += Math.abs(months.get(i));
            }
            return day;
        }

        int clamped(int year, int month, int dayOfMonth) {
            List<Integer> months = monthsOf(year);
            int m = Math.min(month, months.size());
            return dayOf(year, m, Math.min(dayOfMonth, Math.abs(months.get(m - 1))));
        }

        int weekday(int day) {
            return rem(day + zeroWeekday, weekLength);
        }

        int weekOne(int year) {
            int day = start(year) + k - 1;
            while (weekday(day) != 0) {
                day--;
            }
            return day;
        }
    }

    // ---- checks ----

    private Cal cal(int c) {
        if (c < 0 || c >= cals.size()) {
            throw new IndexOutOfBoundsException();
        }
        return cals.get(c);
    }

    private static void arg(boolean holds) {
        if (!holds) {
            throw new IllegalArgumentException();
        }
    }

    private static void year(int year) {
        arg(year >= -2000 && year <= 2000);
    }

    private static boolean isDay(int day) {
        return day >= -MAX_DAY && day <= MAX_DAY;
    }

    private static int[] inside(Cal cal, int day) {
        int[] date = cal.date(day);
        if (date == null) {
            throw new NoSuchElementException();
        }
        return date;
    }

    // ---- the face ----

    int appendCharacter(int character) {
        arg(character >= 33 && character <= 126);
        if (text.length() == 100) {
            throw new IllegalStateException();
        }
        text.append((char) character);
        return text.length();
    }

    int setCalendar(int c) {
        String read = text.toString();
        text.setLength(0);
        if (c < 0 || c > 5 || c > cals.size()) {
            throw new IndexOutOfBoundsException();
        }
        fault = faultOf(read);
        arg(fault == -1);
        Cal made;
        try {
            made = new Cal(read);
        } catch (Impossible e) {
            throw new IllegalStateException();
        }
        change();
        if (c == cals.size()) {
            cals.add(made);
        } else {
            cals.set(c, made);
        }
        return made.lengths.size();
    }

    int faultPosition() {
        return fault;
    }

    int calendarCount() {
        return cals.size();
    }

    int calendar(int c, int part) {
        Cal cal = cal(c);
        arg(part >= 0 && part <= 7);
        return new int[] {cal.lengths.size(), cal.first, cal.leap, cal.rule,
            cal.weekLength, cal.zeroWeekday, cal.k, cal.period}[part];
    }

    boolean isLeapYear(int c, int y) {
        Cal cal = cal(c);
        year(y);
        return cal.leaps(y);
    }

    int months(int c, int y) {
        Cal cal = cal(c);
        year(y);
        return cal.monthsOf(y).size();
    }

    private int month(int c, int y, int m) {
        Cal cal = cal(c);
        year(y);
        List<Integer> all = cal.monthsOf(y);
        arg(m >= 1 && m <= all.size());
        return all.get(m - 1);
    }

    int monthLength(int c, int y, int m) {
        return Math.abs(month(c, y, m));
    }

    boolean isIntercalary(int c, int y, int m) {
        return month(c, y, m) < 0;
    }

    int yearLength(int c, int y) {
        Cal cal = cal(c);
        year(y);
        return cal.yearLength(y);
    }

    int firstDay(int c, int y) {
        Cal cal = cal(c);
        year(y);
        return cal.start(y);
    }

    int dayOf(int c, int y, int m, int d) {
        Integer day = cal(c).dayOf(y, m, d);
        arg(day != null && isDay(day));
        return day;
    }

    int date(int c, int day, int part) {
        Cal cal = cal(c);
        arg(isDay(day));
        arg(part >= 0 && part <= 4);
        int[] date = inside(cal, day);
        return part == 4 ? cal.weekday(day) : date[part];
    }

    int convert(int c, int y, int m, int d, int other, int part) {
        cal(c);
        cal(other);
        return date(other, dayOf(c, y, m, d), part);
    }

    int week(int c, int day, int part) {
        Cal cal = cal(c);
        arg(isDay(day));
        arg(part == 0 || part == 1);
        int y = inside(cal, day)[0];
        for (int w = y - 1; w <= y + 1; w++) {
            if (day >= cal.weekOne(w) && day < cal.weekOne(w + 1)) {
                int number = 1;
                for (int from = cal.weekOne(w); from + cal.weekLength <= day; from += cal.weekLength) {
                    number++;
                }
                return part == 0 ? w : number;
            }
        }
        throw new AssertionError();
    }

    int weeks(int c, int y) {
        Cal cal = cal(c);
        year(y);
        int count = 0;
        for (int from = cal.weekOne(y); from < cal.weekOne(y + 1); from += cal.weekLength) {
            count++;
        }
        return count;
    }

    int firstDayOfWeek(int c, int y, int w) {
        int weeks = weeks(c, y);
        arg(w >= 1 && w <= weeks);
        return cal(c).weekOne(y) + (w - 1) * cal(c).weekLength;
    }

    private static Integer later(Cal cal, int day, int months) {
        int[] date = cal.date(day);
        int y = date[0];
        int m = date[1];
        for (int i = 0; i < months; i++) {
            m++;
            if (m > cal.monthsOf(y).size()) {
                m = 1;
                y++;
            }
            if (y > 2000) {
                return null;
            }
        }
        for (int i = 0; i > months; i--) {
            m--;
            if (m < 1) {
                y--;
                if (y < -2000) {
                    return null;
                }
                m = cal.monthsOf(y).size();
            }
        }
        int found = cal.clamped(y, m, date[2]);
        return isDay(found) ? found : null;
    }

    private static Integer laterYears(Cal cal, int day, int years) {
        int[] date = cal.date(day);
        int y = date[0] + years;
        if (y < -2000 || y > 2000) {
            return null;
        }
        int found = cal.clamped(y, date[1], date[2]);
        return isDay(found) ? found : null;
    }

    private static int there(Integer day) {
        if (day == null) {
            throw new NoSuchElementException();
        }
        return day;
    }

    int plus(int c, int day, int months) {
        Cal cal = cal(c);
        arg(isDay(day));
        arg(months >= -9999 && months <= 9999);
        inside(cal, day);
        return there(later(cal, day, months));
    }

    int plusYears(int c, int day, int years) {
        Cal cal = cal(c);
        arg(isDay(day));
        arg(years >= -4000 && years <= 4000);
        inside(cal, day);
        return there(laterYears(cal, day, years));
    }

    int span(int c, int from, int to, int part) {
        Cal cal = cal(c);
        arg(isDay(from) && isDay(to) && to >= from);
        arg(part >= 0 && part <= 2);
        inside(cal, from);
        inside(cal, to);
        int years = 0;
        for (int n = 0; n <= 4000; n++) {
            Integer day = laterYears(cal, from, n);
            if (day != null && day <= to) {
                years = n;
            }
        }
        int afterYears = laterYears(cal, from, years);
        int months = 0;
        for (int n = 0; n <= 40; n++) {
            Integer day = later(cal, afterYears, n);
            if (day != null && day <= to) {
                months = n;
            }
        }
        return new int[] {years, months, to - later(cal, afterYears, months)}[part];
    }

    int addFeast(int rule, int rank, int which, int a, int b, int c) {
        arg(rule >= 0 && rule <= 4);
        arg(rank >= 0 && rank <= 9);
        arg(which >= 0 && which < (rule < 2 ? cals.size() : feasts.size()));
        if (rule < 2) {
            arg(a >= 1 && a <= 15);
        } else if (rule == 2) {
            arg(a >= -400 && a <= 400);
        } else {
            arg(a >= 0 && a < cals.size());
        }
        if (rule == 0 || rule == 4) {
            arg(b >= 1 && b <= 60);
        } else if (rule == 1) {
            arg(b == -1 || b >= 1 && b <= 5);
        } else if (rule == 2) {
            arg(b == 0);
        } else {
            arg(b >= 0 && b <= 9);
        }
        arg(rule == 1 ? c >= 0 && c <= 9 : c == 0);
        if (feasts.size() == 8) {
            throw new IllegalStateException();
        }
        change();
        feasts.add(new int[] {rule, rank, which, a, b, c});
        return feasts.size() - 1;
    }

    int removeFeast() {
        if (feasts.isEmpty()) {
            throw new IllegalStateException();
        }
        change();
        feasts.remove(feasts.size() - 1);
        return feasts.size();
    }

    int feastCount() {
        return feasts.size();
    }

    private Integer feastDay(int f, int y) {
        Integer day = rawFeastDay(feasts.get(f), y);
        return day == null || !isDay(day) ? null : day;
    }

    private Integer rawFeastDay(int[] f, int y) {
        if (f[0] == 0) {
            return cals.get(f[2]).clamped(y, f[3], f[4]);
        }
        if (f[0] == 1) {
            Cal cal = cals.get(f[2]);
            int m = Math.min(f[3], cal.monthsOf(y).size());
            List<Integer> days = new ArrayList<>();
            for (int d = 1; d <= Math.abs(cal.monthsOf(y).get(m - 1)); d++) {
                if (cal.weekday(cal.dayOf(y, m, d)) == f[5]) {
                    days.add(cal.dayOf(y, m, d));
                }
            }
            int index = f[4] == -1 ? days.size() - 1 : f[4] - 1;
            return index >= 0 && index < days.size() ? days.get(index) : null;
        }
        Integer earlier = feastDay(f[2], y);
        if (earlier == null) {
            return null;
        }
        if (f[0] == 2) {
            return earlier + f[3];
        }
        Cal cal = cals.get(f[3]);
        for (int day = earlier; day < earlier + 400; day++) {
            int[] date = cal.date(day);
            if (date == null) {
                return null;
            }
            if (f[0] == 3 && cal.weekday(day) == f[4] || f[0] == 4 && date[2] == f[4]) {
                return day;
            }
        }
        return null;
    }

    private void checkFeast(int f) {
        if (f < 0 || f >= feasts.size()) {
            throw new IndexOutOfBoundsException();
        }
    }

    int feast(int f, int y) {
        checkFeast(f);
        year(y);
        return there(feastDay(f, y));
    }

    private Integer[] placed(int y) {
        List<Integer> order = new ArrayList<>();
        for (int i = 0; i < feasts.size(); i++) {
            order.add(i);
        }
        order.sort(Comparator.comparingInt((Integer i) -> -feasts.get(i)[1]).thenComparingInt(i -> i));
        Integer[] places = new Integer[8];
        Set<Integer> taken = new HashSet<>();
        for (int i : order) {
            Integer day = feastDay(i, y);
            if (day != null) {
                while (!taken.add(day)) {
                    day++;
                }
                places[i] = day;
            }
        }
        return places;
    }

    int placedFeast(int f, int y) {
        checkFeast(f);
        year(y);
        return there(placed(y)[f]);
    }

    int feastOn(int y, int day) {
        year(y);
        arg(isDay(day));
        Integer[] places = placed(y);
        for (int i = 0; i < places.length; i++) {
            if (places[i] != null && places[i] == day) {
                return i;
            }
        }
        throw new NoSuchElementException();
    }

    int meetingYear(int f, int other, int from) {
        checkFeast(f);
        checkFeast(other);
        arg(f != other);
        arg(from >= -2000 && from <= 1801);
        for (int y = from; y < from + 200; y++) {
            Integer day = feastDay(f, y);
            if (day != null && day.equals(feastDay(other, y))) {
                return y;
            }
        }
        throw new NoSuchElementException();
    }

    int readings(int first, int second, int third) {
        found = new ArrayList<>();
        for (int c = 0; c < cals.size(); c++) {
            Integer[] days = {cals.get(c).dayOf(third, second, first), cals.get(c).dayOf(third, first, second),
                cals.get(c).dayOf(first, second, third)};
            for (int order = 0; order < 3; order++) {
                if (days[order] != null && isDay(days[order])) {
                    found.add(new int[] {c, order, days[order]});
                }
            }
        }
        found.sort(Comparator.comparingInt((int[] r) -> r[2]).thenComparingInt(r -> r[0]).thenComparingInt(r -> r[1]));
        return found.size();
    }

    int reading(int index, int part) {
        if (index < 0 || index >= found.size()) {
            throw new IndexOutOfBoundsException();
        }
        arg(part >= 0 && part <= 2);
        return found.get(index)[part];
    }

    int differentDays() {
        Set<Integer> days = new HashSet<>();
        for (int[] one : found) {
            days.add(one[2]);
        }
        return days.size();
    }

    int write(int c, int day) {
        Cal cal = cal(c);
        arg(isDay(day));
        int[] date = inside(cal, day);
        boolean intercalary = cal.monthsOf(date[0]).get(date[1] - 1) < 0;
        written = date[2] + "." + date[1] + (intercalary ? "i" : "") + "." + date[0];
        return written.length();
    }

    char output(int index) {
        if (index < 0 || index >= written.length()) {
            throw new IndexOutOfBoundsException();
        }
        return written.charAt(index);
    }

    int newYears(int c, int other, int from, int to) {
        Cal cal = cal(c);
        Cal target = cal(other);
        year(from);
        year(to);
        arg(to >= from);
        Set<Integer> starts = new HashSet<>();
        for (int y = -2000; y <= 2000; y++) {
            starts.add(target.start(y));
        }
        int count = 0;
        for (int y = from; y <= to; y++) {
            count += starts.contains(cal.start(y)) ? 1 : 0;
        }
        return count;
    }

    double averageYear(int c) {
        Cal cal = cal(c);
        long days = 0;
        for (int y = 1; y <= cal.period; y++) {
            days += cal.yearLength(y);
        }
        return (double) days / (double) cal.period;
    }

    float drift(int c, int other) {
        cal(c);
        cal(other);
        return (float) ((averageYear(c) - averageYear(other)) * 100.0);
    }

    // ---- changes ----

    private List<Object[]> copy() {
        List<Object[]> copy = new ArrayList<>();
        copy.add(cals.toArray());
        copy.add(feasts.toArray());
        return copy;
    }

    private void become(List<Object[]> copy) {
        cals = new ArrayList<>();
        for (Object one : copy.get(0)) {
            cals.add((Cal) one);
        }
        feasts = new ArrayList<>();
        for (Object one : copy.get(1)) {
            feasts.add((int[]) one);
        }
    }

    private void change() {
        history.push(copy());
        if (history.size() > 6) {
            history.removeLast();
        }
    }

    int undo() {
        if (history.isEmpty()) {
            throw new IllegalStateException();
        }
        become(history.pop());
        return history.size();
    }

    int save() {
        savedState = copy();
        return cals.size();
    }

    int restore() {
        if (savedState == null) {
            throw new IllegalStateException();
        }
        change();
        become(savedState);
        return cals.size();
    }
}
