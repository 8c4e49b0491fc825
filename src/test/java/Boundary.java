import java.util.concurrent.Callable;

/** What the tests of the boundary cases share: objects in known states, and calls that are refused. */
abstract class Boundary {
    static final String INDEX = "IndexOutOfBoundsException";
    static final String ARGUMENT = "IllegalArgumentException";
    static final String STATE = "IllegalStateException";
    static final String ELEMENT = "NoSuchElementException";
    static final int LEAST = Integer.MIN_VALUE;
    static final int GREATEST = Integer.MAX_VALUE;

    /** Years of 30 days: year y begins on 30 (y - 1); the days -60030 to 59999 are inside. */
    static final String PLAIN = "m30;e0";
    /** Years of 251 days; 8.1.1993 is the day 999999. */
    static final String LATE = "m60,60,60,60,11;e500000";
    /** Years of 251 days; 5.5.-1992 is the day -999999. */
    static final String EARLY = "m60,60,60,60,11;e-500000";
    /** Years of 118 days, and of 147 if the remainder by 3 is 1, with a fifth, intercalary month. */
    static final String MOONS = "m29,30,29,30;e-100;i4,29;c3:1";
    /** Even years of 30 days; odd ones of 37 days, their second month is intercalary. */
    static final String MIDDLE = "m10,20;e0;i1,7;c2:1";
    /** Of 100 characters. */
    static final String LONG = "m000030,000001,000001,000001,000001,000001,000001,000001,000001,000001,000001,000001"
        + ";e000000;d01;l4+";

    /** The test that runs, for what is printed. */
    static String test = "";
    private static int asked = 0;

    /** A call on an object. */
    interface Call {
        Object on(CalendarConverter x);
    }

    /** A call on an object with a number. */
    interface CallWith {
        Object on(CalendarConverter x, int number);
    }

    /** Makes an object, always in the same state. */
    interface Make {
        CalendarConverter made();
    }

    static void begin(String name) {
        test = name;
        asked = 0;
    }

    private static String label() {
        asked++;
        return test + " " + asked;
    }

    static void is(Object due, Callable<?> call) {
        Due.is(label(), due, call);
    }

    /** An answer for each number. */
    static void are(CalendarConverter x, CallWith call, int... numbersAndDue) {
        for (int i = 0; i + 1 < numbersAndDue.length; i += 2) {
            int number = numbersAndDue[i];
            Due.is(label() + " for " + number, numbersAndDue[i + 1], () -> call.on(x, number));
        }
    }

    static void write(CalendarConverter x, String text) {
        for (int i = 0; i < text.length(); i++) {
            x.appendCharacter(text.charAt(i));
        }
    }

    static int set(CalendarConverter x, int number, String text) {
        write(x, text);
        return x.setCalendar(number);
    }

    /** A new object with the calendars 1, 2 and so on by texts. */
    static CalendarConverter with(String... texts) {
        CalendarConverter x = new CalendarConverter();
        for (String text : texts) {
            set(x, x.calendarCount(), text);
        }
        return x;
    }

    /** Objects with calendars by texts, two feasts, one of them saved, readings, an output, and a fault position. */
    static Make without(String... texts) {
        return () -> {
            CalendarConverter x = with(texts);
            x.addFeast(0, 3, 0, 1, 1, 0);
            x.save();
            x.addFeast(2, 5, 0, 0, 0, 0);
            x.readings(1, 2, 3);
            x.write(0, 730178);
            Due.answer(() -> set(x, 0, "m30;x"));
            return x;
        };
    }

    /** The same objects, also with a text that is begun. */
    static Make settled(String... texts) {
        return () -> {
            CalendarConverter x = without(texts).made();
            write(x, "m30;e");
            return x;
        };
    }

    /** Each call throws the exception and leaves its object as one that had not got it. */
    static void refused(String exception, Make make, Call... calls) {
        CalendarConverter untouched = make.made();
        String fault = Due.answer(untouched::faultPosition);
        String all = all(untouched);
        for (Call call : calls) {
            CalendarConverter x = make.made();
            String label = label();
            Due.same(label, exception, Due.answer(() -> call.on(x)));
            Due.same(label + " fault position", fault, Due.answer(x::faultPosition));
            Due.same(label + " changed something", all, all(x));
        }
    }

    static void refusedFor(String exception, Make make, CallWith call, int... numbers) {
        for (int number : numbers) {
            refused(exception, make, x -> call.on(x, number));
        }
    }

    /** All calls throw, and all of them together leave their object as one that had not got them. */
    static void refusedInARow(Make make, Call... calls) {
        CalendarConverter x = make.made();
        for (Call call : calls) {
            String label = label();
            String answer = Due.answer(() -> call.on(x));
            Due.same(label + " " + answer, "true", String.valueOf(answer.endsWith("Exception")));
        }
        Due.same(label() + " changed something", all(make.made()), all(x));
    }

    /** The text is read and refused: it is emptied, the fault position is told, nothing else has changed. */
    static void refusedText(String exception, int fault, int calendar, String text) {
        Make make = without(MOONS);
        CalendarConverter x = make.made();
        String label = label() + " " + text;
        Due.same(label, exception, Due.answer(() -> set(x, calendar, text)));
        Due.same(label + " fault position", String.valueOf(fault), Due.answer(x::faultPosition));
        Due.same(label + " changed something", all(make.made()), all(x));
    }

    static void faulty(String text, int fault) {
        refusedText(ARGUMENT, fault, 1, text);
    }

    static void impossible(String... texts) {
        for (String text : texts) {
            refusedText(STATE, -1, 1, text);
        }
    }

    static void possible(String... texts) {
        for (String text : texts) {
            CalendarConverter x = without(MOONS).made();
            int months = text.substring(0, text.indexOf(';')).split(",").length;
            Due.is(label() + " " + text, months, () -> set(x, 1, text));
            Due.is(text + " fault position", -1, x::faultPosition);
            Due.is(text + " calendars", 2, x::calendarCount);
        }
    }

    /** All that can be told of an object but the fault position; the object is used up. */
    private static String all(CalendarConverter x) {
        StringBuilder s = new StringBuilder();
        shown(x, s);
        changing(x, s);
        String left = "";
        for (int i = 0; i < 8 && !left.equals(STATE); i++) {
            left = Due.answer(x::undo);
            s.append(" undo ").append(left);
            changing(x, s);
        }
        shown(x, s);
        s.append(" append ").append(Due.answer(() -> x.appendCharacter('7')));
        s.append(" set ").append(Due.answer(() -> x.setCalendar(0)));
        changing(x, s);
        s.append(" restore ").append(Due.answer(x::restore));
        changing(x, s);
        return s.toString();
    }

    /** The readings and the output. */
    private static void shown(CalendarConverter x, StringBuilder s) {
        s.append(" readings ").append(Due.answer(x::differentDays));
        for (int i = 0; i < 4; i++) {
            int index = i;
            s.append(' ').append(Due.answer(() -> x.reading(index, 1))).append(' ').append(Due.answer(() -> x.reading(index, 2)));
        }
        s.append(" output ").append(output(x));
    }

    /** The calendars and the feasts. */
    private static void changing(CalendarConverter x, StringBuilder s) {
        int calendars = x.calendarCount();
        int feasts = x.feastCount();
        s.append(" calendars ").append(calendars);
        for (int i = 0; i < calendars; i++) {
            int calendar = i;
            s.append(' ').append(Due.answer(() -> x.firstDay(calendar, 1)));
            s.append(' ').append(Due.answer(() -> x.yearLength(calendar, 1)));
        }
        s.append(" feasts ").append(feasts);
        for (int i = 0; i < feasts; i++) {
            int feast = i;
            s.append(' ').append(Due.answer(() -> x.feast(feast, 1))).append(' ').append(Due.answer(() -> x.placedFeast(feast, 1)));
        }
    }

    static String output(CalendarConverter x) {
        StringBuilder s = new StringBuilder();
        String next = Due.answer(() -> x.output(0));
        for (int i = 1; i < 20 && !next.equals(INDEX); i++) {
            int index = i;
            s.append(next);
            next = Due.answer(() -> x.output(index));
        }
        return s.toString();
    }
}
