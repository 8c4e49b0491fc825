import java.io.PrintWriter;
import java.io.StringWriter;
import java.lang.reflect.Constructor;
import java.lang.reflect.Method;
import java.lang.reflect.Modifier;
import java.nio.file.Files;
import java.nio.file.Path;
import java.util.Arrays;
import java.util.HashMap;
import java.util.Map;
import java.util.TreeSet;
import java.util.regex.Matcher;
import java.util.regex.Pattern;
import java.util.spi.ToolProvider;

/** The rules of the language that can be seen from the outside of the program and from its words. */
public final class LanguageTest {
    private static final String[] FACE = {
        "appendCharacter(int)int", "setCalendar(int)int", "faultPosition()int", "calendarCount()int",
        "calendar(int,int)int", "isLeapYear(int,int)boolean", "months(int,int)int", "monthLength(int,int,int)int",
        "isIntercalary(int,int,int)boolean", "yearLength(int,int)int", "firstDay(int,int)int",
        "dayOf(int,int,int,int)int", "date(int,int,int)int", "convert(int,int,int,int,int,int)int",
        "week(int,int,int)int", "weeks(int,int)int", "firstDayOfWeek(int,int,int)int", "plus(int,int,int)int",
        "plusYears(int,int,int)int", "span(int,int,int,int)int", "addFeast(int,int,int,int,int,int)int",
        "removeFeast()int", "feastCount()int", "feast(int,int)int", "placedFeast(int,int)int", "feastOn(int,int)int",
        "meetingYear(int,int,int)int", "readings(int,int,int)int", "reading(int,int)int", "differentDays()int",
        "write(int,int)int", "output(int)char", "newYears(int,int,int,int)int", "averageYear(int)double",
        "drift(int,int)float", "undo()int", "save()int", "restore()int"};
    private static final String[] FORBIDDEN = {
        "catch", "try", "finally", "synchronized", "assert", "instanceof", "->", "::", "static \\{", "Exact",
        "System\\.(?!arraycopy)", "Object", "Thread", "Random", "protected", "package", "varargs", "\\.\\.\\.",
        "hashCode", "equals", "toString", "\" \\+", "\\+ \"", "while \\(true", "var "};
    private static final int LONGEST_METHOD = 60;
    private static final int MOST_CLASSES = 12;
    private static final int MOST_FIELDS = 20;
    private static final int MOST_PARAMETERS = 7;
    private static final int DEEPEST_CALLS = 8;

    private LanguageTest() {
    }

    public static void main(String[] args) throws Exception {
        String source = Files.readString(Path.of("src/main/java/CalendarConverter.java"));
        words(source);
        methodLengths(source);
        face();
        signatures(source);
        classes();
        depth();
        Due.end("LanguageTest");
    }

    private static void words(String source) {
        String code = source.replaceAll("(?s)/\\*.*?\\*/", "").replaceAll("//.*", "");
        for (String word : FORBIDDEN) {
            boolean plain = Character.isLetter(word.charAt(0)) && !word.contains("\\") && !word.equals("Exact");
            Matcher m = Pattern.compile(plain ? "\\b" + word + "\\b" : word).matcher(code);
            Due.same("the word " + word, "false", String.valueOf(m.find()));
        }
        Matcher imports = Pattern.compile("import (.*);").matcher(code);
        while (imports.find()) {
            Due.same("import", "true", String.valueOf(imports.group(1).matches("java\\.util\\.(Arrays|NoSuchElementException)")));
        }
        Due.same("signs", "true", String.valueOf(source.chars().allMatch(c -> c == 10 || c >= 32 && c < 127)));
    }

    private static void methodLengths(String source) {
        Matcher start = Pattern.compile("(?m)^( +)(?:private |public |static )*[\\w\\[\\]]+ \\w+\\([^;=]*?\\)[^;=]*?\\{$")
            .matcher(source);
        int methods = 0;
        while (start.find()) {
            int end = source.indexOf("\n" + start.group(1) + "}", start.end());
            long lines = source.substring(start.start(), end).lines().count();
            Due.same("length of " + start.group().trim(), "true", String.valueOf(lines <= LONGEST_METHOD));
            methods++;
        }
        Due.same("methods seen", "true", String.valueOf(methods > 100));
    }

    private static String signature(Method m) {
        StringBuilder s = new StringBuilder(m.getName()).append('(');
        for (Class<?> type : m.getParameterTypes()) {
            s.append(s.charAt(s.length() - 1) == '(' ? "" : ",").append(type.getName());
        }
        return s.append(')').append(m.getReturnType().getName()).toString();
    }

    private static void face() {
        TreeSet<String> due = new TreeSet<>(Arrays.asList(FACE));
        TreeSet<String> got = new TreeSet<>();
        TreeSet<String> names = new TreeSet<>();
        for (Method m : CalendarConverter.class.getDeclaredMethods()) {
            if (!Modifier.isPrivate(m.getModifiers())) {
                got.add(signature(m));
                names.add(m.getName());
                Due.same(m + " is public", "1", String.valueOf(m.getModifiers()));
            }
        }
        Due.same("the face", due.toString(), got.toString());
        for (Method m : CalendarConverter.class.getDeclaredMethods()) {
            if (Modifier.isPrivate(m.getModifiers())) {
                Due.same("name of " + m, "false", String.valueOf(names.contains(m.getName())));
            }
        }
        Constructor<?>[] made = CalendarConverter.class.getDeclaredConstructors();
        Due.same("constructors", "1 public 0", made.length + " " + Modifier.toString(made[0].getModifiers()) + " "
            + made[0].getParameterCount());
        Due.same("the class", "public final", Modifier.toString(CalendarConverter.class.getModifiers()));
    }

    /** The document's section on the public face has every signature as it stands in the source. */
    private static void signatures(String source) throws Exception {
        String document = Files.readString(Path.of("../shared/DOC.md"));
        String face = document.substring(document.indexOf("```java"), document.indexOf("\n```\n"));
        String plain = source.replaceAll("\\s+", " ");
        int seen = 0;
        for (String line : face.split("\n")) {
            String signature = line.trim();
            if (signature.startsWith("public ") && signature.endsWith(";")) {
                String due = signature.substring(0, signature.length() - 1) + " {";
                Due.same(signature, "true", String.valueOf(plain.contains(due)));
                seen++;
            }
        }
        Due.same("signatures seen", "39", String.valueOf(seen));
    }

    private static void classes() {
        Class<?>[] inside = CalendarConverter.class.getDeclaredClasses();
        Due.same("number of classes", "true", String.valueOf(inside.length < MOST_CLASSES));
        for (Class<?> one : inside) {
            Due.same(one.getName(), "private static final", Modifier.toString(one.getModifiers()));
            members(one);
        }
        members(CalendarConverter.class);
    }

    private static void members(Class<?> one) {
        long fields = Arrays.stream(one.getDeclaredFields()).filter(f -> !Modifier.isStatic(f.getModifiers())).count();
        Due.same("fields of " + one, "true", String.valueOf(fields <= MOST_FIELDS));
        Arrays.stream(one.getDeclaredFields()).forEach(f -> {
            Due.same(f + " is private", "true", String.valueOf(Modifier.isPrivate(f.getModifiers())));
            boolean changing = Modifier.isStatic(f.getModifiers()) && !Modifier.isFinal(f.getModifiers());
            Due.same(f + " is static and not final", "false", String.valueOf(changing));
        });
        for (Method m : one.getDeclaredMethods()) {
            Due.same("parameters of " + m, "true", String.valueOf(m.getParameterCount() <= MOST_PARAMETERS));
        }
    }

    /** The calls that stand open at once, the library's counted too; no method calls itself, not even through others. */
    private static void depth() throws Exception {
        Map<String, TreeSet<String>> calls = new HashMap<>();
        addCalls(CalendarConverter.class, calls);
        for (Class<?> one : CalendarConverter.class.getDeclaredClasses()) {
            addCalls(one, calls);
        }
        int links = 0;
        for (Map.Entry<String, TreeSet<String>> one : calls.entrySet()) {
            links += one.getValue().size();
            Due.same("depth of the calls of " + one.getKey(), "true",
                String.valueOf(depthOf(one.getKey(), calls, 0) <= DEEPEST_CALLS));
        }
        Due.same("calls seen", "true", String.valueOf(calls.size() > 100 && links > 200));
    }

    private static int depthOf(String method, Map<String, TreeSet<String>> calls, int open) {
        int deepest = 0;
        if (open <= DEEPEST_CALLS && calls.containsKey(method)) {
            for (String called : calls.get(method)) {
                deepest = Math.max(deepest, depthOf(called, calls, open + 1));
            }
        }
        return deepest + 1;
    }

    private static void addCalls(Class<?> one, Map<String, TreeSet<String>> calls) throws Exception {
        StringWriter code = new StringWriter();
        Path place = Path.of(one.getProtectionDomain().getCodeSource().getLocation().toURI());
        ToolProvider.findFirst("javap").orElseThrow().run(new PrintWriter(code), new PrintWriter(code), "-p", "-c",
            "-cp", place.toString(), one.getName());
        Pattern begins = Pattern.compile("  \\S.*?([\\w$]+)\\(.*\\).*;");
        Pattern call = Pattern.compile(".*// (?:Interface)?Method (?:([\\w/$]+)\\.)?\"?([\\w<>]+)\"?:.*");
        String method = "";
        for (String line : code.toString().split("\\R")) {
            Matcher begun = begins.matcher(line);
            Matcher called = call.matcher(line);
            if (begun.matches()) {
                String name = begun.group(1).equals(one.getName()) ? "<init>" : begun.group(1);
                method = one.getName() + "." + name;
                calls.computeIfAbsent(method, key -> new TreeSet<>());
            } else if (called.matches() && !method.isEmpty()) {
                String owner = called.group(1) == null ? one.getName() : called.group(1);
                calls.get(method).add(owner + "." + called.group(2));
            }
        }
    }
}
