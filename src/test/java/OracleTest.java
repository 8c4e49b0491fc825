import java.util.Random;
import java.util.concurrent.Callable;

/** Runs of calls, made from fixed seeds, on a converter and on the oracle: all answers must be the same. */
public final class OracleTest {
    private static final int RUNS = 1500;
    private static final int MOST_CALLS = 512;
    private static final String[] GOOD = {
        "m31,28,31,30,31,30,31,31,30,31,30,31;e0;d2;l4+100-400+",
        "m29,30,29,30;e-100;i4,29;c3:1",
        "m30;e0", "m60;e-500000;d1;l1+", "m30;e500000;w10,9,10", "m30;e0;w2,1,1", "m30;e0;w2,0,2;",
        "m60,60,60,60,60,60,60,60,60,60,60,60,60,60;e0;i14,60;l1+;w9,3,5",
        "m1,1,1,1,1,1,1,1,1,1,1,1,1,17;e10;i1,1;c30:0,29,29,15;w10,0,1",
        "m30,29,30,29,30,29,30,29,30,29,30,29;e-347997;i6,30;c19:0,3,6,8,11,14,17;w7,1,7",
        "m30,30,30,30,30,30,30,30,30,30,30,30,5;e103604;d13;c4:3;w7,1,4",
        "m31,28,31,30,31,30,31,31,30,31,30,31;e-2;d2;l4+",
        "m2,1,40;e0;i1,2;l4-2+3-", "m30;e-0;d1;l400-100-4+", "m0010,20;e-00;l0004+;w05,04,05",
        "m29,30,29,30,29,30,29,30,29,30,29,30;e226894;d12;c30:2,5,7,10,13,16,18,21,24,26,29",
        "m15,15;e7;i2,3;l3+9-27+81-", "m30;e0;c1:0;w3,0,3", "m30;e0;d1;w3,2,2", "m60,59;e499999;d1;l2+125+;w8,7,8",
        "m30;e0;l0+", "m30;e0;l401+", "m30;e0;l7+11+13+", "m30;e0;l8+125+", "m30;e0;l8+125+3-", "m61;e0", "m29;e0",
        "m0,31;e0", "m30;e500001", "m30;e-500001", "m30;e0;d0", "m30;e0;d2", "m30;e0;i0,5", "m30;e0;i2,5",
        "m30;e0;i1,0", "m30;e0;i1,61", "m30;e0;c0:0", "m30;e0;c31:0", "m30;e0;c5:5", "m30;e0;c30:29,30",
        "m30;e0;w1,0,1", "m30;e0;w11,0,1", "m30;e0;w7,7,1", "m30;e0;w7,0,0", "m30;e0;w7,0,8",
        "m30;e0;l1+2+3+4+5", "m2,2,2,2,2,2,2,2,2,2,2,2,2,2,2;e0", "m3000000;e0", "m30;e1234567", "m30;e0;l4",
    };
    private static final String SIGNS = "0123456789,;:+-medilcwx";

    private final Random random;
    private final CalendarConverter x = new CalendarConverter();
    private final Oracle o = new Oracle();
    private final StringBuilder calls = new StringBuilder();
    private int count = 0;
    private boolean same = true;

    private OracleTest(long seed) {
        random = new Random(seed);
    }

    public static void main(String[] args) {
        int runs = args.length > 0 ? Integer.parseInt(args[0]) : RUNS;
        int base = args.length > 1 ? Integer.parseInt(args[1]) : 0;
        for (int seed = base; seed < base + runs; seed++) {
            OracleTest test = new OracleTest(seed);
            test.run();
            if (!test.same) {
                System.out.println("seed " + seed + ":" + test.calls);
            }
        }
        Due.end("OracleTest");
    }

    private void run() {
        int texts = random.nextInt(4);
        for (int i = 0; i < texts && same; i++) {
            setText(Math.min(5, o.calendarCount()));
        }
        while (same && count < MOST_CALLS) {
            step();
        }
    }

    private void both(String call, Callable<?> got, Callable<?> due) {
        if (!same || count >= MOST_CALLS) {
            return;
        }
        count++;
        calls.append(' ').append(call);
        same = Due.same(call, Due.answer(due), Due.answer(got));
    }

    private int from(int low, int high) {
        return low + random.nextInt(high - low + 1);
    }

    private boolean chance(int percent) {
        return random.nextInt(100) < percent;
    }

    private int cal() {
        return chance(4) ? from(-2, 7) : random.nextInt(o.calendarCount());
    }

    private int year() {
        int kind = random.nextInt(20);
        if (kind == 0) {
            return from(-2003, -1995);
        }
        if (kind == 1) {
            return from(1995, 2003);
        }
        return kind < 8 ? from(-8, 8) : from(-2000, 2000);
    }

    private int day() {
        int kind = random.nextInt(20);
        if (kind == 0) {
            return from(-1000001, -999990);
        }
        if (kind == 1) {
            return from(999990, 1000001);
        }
        if (kind < 6) {
            int edge = chance(50) ? -2000 : 2000;
            return o.firstDay(random.nextInt(o.calendarCount()), edge) + (edge > 0 ? from(0, 900) : from(-30, 60));
        }
        if (kind < 10) {
            return o.firstDay(random.nextInt(o.calendarCount()), from(-2000, 2000)) + from(-12, 12);
        }
        return kind < 12 ? from(-1000, 1000) : from(-999999, 999999);
    }

    private int part(int last) {
        return chance(3) ? (chance(50) ? -1 : last + 1) : from(0, last);
    }

    private int any() {
        switch (random.nextInt(12)) {
            case 0: return Integer.MIN_VALUE;
            case 1: return Integer.MAX_VALUE;
            default: return random.nextInt();
        }
    }

    private String randomText() {
        StringBuilder s = new StringBuilder("m");
        int months = from(1, 14);
        boolean small = months > 8 || chance(40);
        for (int i = 0; i < months; i++) {
            s.append(i == 0 ? "" : ",").append(i == months - 1 ? from(30, 60) : small ? from(1, 9) : from(1, 60));
        }
        s.append(";e").append(chance(50) ? from(-1000, 1000) : from(-500000, 500000));
        switch (random.nextInt(4)) {
            case 0: s.append(";d").append(from(1, months)); break;
            case 1: break;
            default: s.append(";i").append(from(1, months)).append(',').append(from(1, 60));
        }
        int rule = random.nextInt(5);
        if (rule < 2) {
            int base = from(1, 12);
            s.append(";l");
            for (int i = from(1, 4); i > 0; i--) {
                s.append(base).append(chance(60) ? '+' : '-');
                base = chance(80) ? base * from(2, 4) : from(1, 6);
            }
        } else if (rule < 4) {
            int cycle = from(1, 30);
            s.append(";c").append(cycle).append(':').append(from(0, cycle - 1));
            for (int i = from(0, 5); i > 0; i--) {
                s.append(',').append(from(0, cycle - 1));
            }
        }
        if (chance(60)) {
            int length = from(2, 10);
            s.append(";w").append(length).append(',').append(from(0, length - 1)).append(',').append(from(1, length));
        }
        return s.toString();
    }

    private void setText(int number) {
        StringBuilder s = new StringBuilder(chance(40) ? GOOD[random.nextInt(GOOD.length)] : randomText());
        if (chance(15)) {
            int at = random.nextInt(s.length());
            char sign = SIGNS.charAt(random.nextInt(SIGNS.length()));
            switch (random.nextInt(4)) {
                case 0: s.setLength(at); break;
                case 1: s.deleteCharAt(at); break;
                case 2: s.insert(at, sign); break;
                default: s.setCharAt(at, sign);
            }
        }
        for (int i = 0; i < s.length(); i++) {
            int sign = s.charAt(i);
            both("append " + (char) sign, () -> x.appendCharacter(sign), () -> o.appendCharacter(sign));
        }
        both("setCalendar " + number, () -> x.setCalendar(number), () -> o.setCalendar(number));
        both("faultPosition", () -> x.faultPosition(), () -> o.faultPosition());
    }

    private void step() {
        int kind = random.nextInt(100);
        if (kind < 1) {
            setText(chance(10) ? from(-1, 7) : random.nextInt(Math.min(6, o.calendarCount() + 1)));
        } else if (kind < 3) {
            int sign = chance(50) ? SIGNS.charAt(random.nextInt(SIGNS.length())) : from(30, 130);
            both("append " + sign, () -> x.appendCharacter(sign), () -> o.appendCharacter(sign));
        } else if (kind < 12) {
            changes();
        } else if (kind < 30) {
            addFeast();
        } else if (kind < 55) {
            feasts();
        } else if (kind < 65) {
            years();
        } else if (kind < 85) {
            days();
        } else {
            others();
        }
    }

    private void changes() {
        switch (random.nextInt(9)) {
            case 0: both("undo", () -> x.undo(), () -> o.undo()); break;
            case 1: both("save", () -> x.save(), () -> o.save()); break;
            case 2: both("restore", () -> x.restore(), () -> o.restore()); break;
            case 3: both("removeFeast", () -> x.removeFeast(), () -> o.removeFeast()); break;
            case 4: both("feastCount", () -> x.feastCount(), () -> o.feastCount()); break;
            case 5: both("calendarCount", () -> x.calendarCount(), () -> o.calendarCount()); break;
            case 6: both("faultPosition", () -> x.faultPosition(), () -> o.faultPosition()); break;
            case 7:
                int number = chance(50) ? from(-1, 7) : o.calendarCount();
                both("setCalendar " + number, () -> x.setCalendar(number), () -> o.setCalendar(number));
                break;
            default:
                int c = cal();
                int p = part(7);
                both("calendar " + c + " " + p, () -> x.calendar(c, p), () -> o.calendar(c, p));
        }
    }

    private void addFeast() {
        int rule = chance(3) ? from(-1, 5) : from(0, 4);
        int rank = chance(3) ? from(-1, 10) : from(0, 9);
        int limit = rule < 2 ? o.calendarCount() : o.feastCount();
        int which = chance(3) || limit == 0 ? from(-1, 8) : random.nextInt(limit);
        int a = rule < 2 ? from(1, 15) : rule == 2 ? (chance(50) ? from(-3, 3) : from(-400, 400)) : cal();
        int b = rule == 0 || rule == 4 ? from(1, chance(70) ? 31 : 60) : rule == 1 ? (chance(25) ? -1 : from(1, 5))
            : rule == 3 ? from(0, chance(80) ? 6 : 9) : 0;
        int c = rule == 1 ? from(0, chance(80) ? 6 : 9) : 0;
        if (chance(3)) {
            a = from(-402, 402);
        }
        if (chance(3)) {
            b = from(-2, 62);
        }
        if (chance(3)) {
            c = from(-2, 11);
        }
        int fa = a;
        int fb = b;
        int fc = c;
        both("addFeast " + rule + " " + rank + " " + which + " " + a + " " + b + " " + c,
            () -> x.addFeast(rule, rank, which, fa, fb, fc), () -> o.addFeast(rule, rank, which, fa, fb, fc));
    }

    private void feasts() {
        int f = chance(4) || o.feastCount() == 0 ? from(-1, 8) : random.nextInt(o.feastCount());
        int g = chance(10) || o.feastCount() == 0 ? from(-1, 8) : random.nextInt(o.feastCount());
        int y = year();
        switch (random.nextInt(4)) {
            case 0: both("feast " + f + " " + y, () -> x.feast(f, y), () -> o.feast(f, y)); break;
            case 1: both("placedFeast " + f + " " + y, () -> x.placedFeast(f, y), () -> o.placedFeast(f, y)); break;
            case 2:
                String place = Due.answer(() -> o.placedFeast(f, y));
                int day = place.matches("-?[0-9]+") && chance(90) ? Integer.parseInt(place) : day();
                both("feastOn " + y + " " + day, () -> x.feastOn(y, day), () -> o.feastOn(y, day));
                break;
            default:
                int from = chance(10) ? from(1795, 1805) : y;
                both("meetingYear " + f + " " + g + " " + from,
                    () -> x.meetingYear(f, g, from), () -> o.meetingYear(f, g, from));
        }
    }

    private void years() {
        int c = cal();
        int y = chance(2) ? any() : year();
        int m = chance(2) ? any() : from(0, 16);
        int d = chance(2) ? any() : from(0, 62);
        switch (random.nextInt(9)) {
            case 0: both("isLeapYear " + c + " " + y, () -> x.isLeapYear(c, y), () -> o.isLeapYear(c, y)); break;
            case 1: both("months " + c + " " + y, () -> x.months(c, y), () -> o.months(c, y)); break;
            case 2:
                both("monthLength " + c + " " + y + " " + m, () -> x.monthLength(c, y, m), () -> o.monthLength(c, y, m));
                break;
            case 3:
                both("isIntercalary " + c + " " + y + " " + m,
                    () -> x.isIntercalary(c, y, m), () -> o.isIntercalary(c, y, m));
                break;
            case 4: both("yearLength " + c + " " + y, () -> x.yearLength(c, y), () -> o.yearLength(c, y)); break;
            case 5: both("firstDay " + c + " " + y, () -> x.firstDay(c, y), () -> o.firstDay(c, y)); break;
            case 6: both("weeks " + c + " " + y, () -> x.weeks(c, y), () -> o.weeks(c, y)); break;
            case 7:
                int w = from(-1, chance(50) ? 4 : 130);
                both("firstDayOfWeek " + c + " " + y + " " + w,
                    () -> x.firstDayOfWeek(c, y, w), () -> o.firstDayOfWeek(c, y, w));
                break;
            default:
                both("dayOf " + c + " " + y + " " + m + " " + d, () -> x.dayOf(c, y, m, d), () -> o.dayOf(c, y, m, d));
        }
    }

    private void days() {
        int c = cal();
        int day = chance(1) ? any() : day();
        switch (random.nextInt(6)) {
            case 0:
                int p = part(4);
                both("date " + c + " " + day + " " + p, () -> x.date(c, day, p), () -> o.date(c, day, p));
                break;
            case 1:
                int q = part(1);
                both("week " + c + " " + day + " " + q, () -> x.week(c, day, q), () -> o.week(c, day, q));
                break;
            case 2:
                int n = chance(60) ? from(-30, 30) : chance(95) ? from(-9999, 9999) : from(-10001, 10001);
                both("plus " + c + " " + day + " " + n, () -> x.plus(c, day, n), () -> o.plus(c, day, n));
                break;
            case 3:
                int k = chance(60) ? from(-9, 9) : chance(95) ? from(-4000, 4000) : chance(50) ? 4001 : -4001;
                both("plusYears " + c + " " + day + " " + k, () -> x.plusYears(c, day, k), () -> o.plusYears(c, day, k));
                break;
            case 4:
                int to = chance(50) ? day + from(-1, 3000) : day();
                int s = part(2);
                both("span " + c + " " + day + " " + to + " " + s,
                    () -> x.span(c, day, to, s), () -> o.span(c, day, to, s));
                break;
            default:
                both("write " + c + " " + day, () -> x.write(c, day), () -> o.write(c, day));
                for (int i = chance(80) ? 99 : -1; i < 13; i++) {
                    int index = i;
                    both("output " + index, () -> x.output(index), () -> o.output(index));
                }
        }
    }

    private void others() {
        int c = cal();
        int d = cal();
        switch (random.nextInt(7)) {
            case 0: both("averageYear " + c, () -> x.averageYear(c), () -> o.averageYear(c)); break;
            case 1: both("drift " + c + " " + d, () -> x.drift(c, d), () -> o.drift(c, d)); break;
            case 2:
                int y = year();
                int to = chance(60) ? 2000 : y + from(-1, 100);
                both("newYears " + c + " " + d + " " + y + " " + to,
                    () -> x.newYears(c, d, y, to), () -> o.newYears(c, d, y, to));
                break;
            case 3:
                int index = from(-1, 18);
                int p = part(2);
                both("reading " + index + " " + p, () -> x.reading(index, p), () -> o.reading(index, p));
                both("differentDays", () -> x.differentDays(), () -> o.differentDays());
                break;
            case 4:
                int cy = year();
                int m = from(0, 15);
                int dd = from(0, 35);
                int part = part(4);
                both("convert " + c + " " + cy + " " + m + " " + dd + " " + d + " " + part,
                    () -> x.convert(c, cy, m, dd, d, part), () -> o.convert(c, cy, m, dd, d, part));
                break;
            default:
                int a = number();
                int b = number();
                int e = number();
                both("readings " + a + " " + b + " " + e, () -> x.readings(a, b, e), () -> o.readings(a, b, e));
                for (int i = chance(70) ? 99 : 0; i <= o.calendarCount() * 3; i++) {
                    int at = i;
                    int which = from(0, 2);
                    both("reading " + at + " " + which, () -> x.reading(at, which), () -> o.reading(at, which));
                }
        }
    }

    private int number() {
        int kind = random.nextInt(20);
        return kind == 0 ? any() : kind < 3 ? year() : from(kind < 10 ? 0 : 1, kind < 12 ? 12 : 31);
    }
}
