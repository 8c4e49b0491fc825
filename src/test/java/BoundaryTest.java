import java.lang.reflect.Method;
import java.nio.file.Files;
import java.nio.file.Path;
import java.util.ArrayList;
import java.util.Arrays;
import java.util.Comparator;
import java.util.List;

/**
 * Runs the tests of the document's sentences, and finds the sentences that have no test. With a word as argument it
 * runs only the tests whose names begin with it.
 */
public final class BoundaryTest {
    private static final Class<?>[] TESTS = {DescriptionBoundaries.class, TextBoundaries.class, FeastBoundaries.class,
        PromiseBoundaries.class, CalendarPromises.class, SpanPromises.class, FeastPromises.class, OtherPromises.class};
    /** Headings, and what leaves something free; signatures are compared by LanguageTest. */
    private static final String[] NOTHING_TO_TEST = {"A converter for calendars:", "The class is not thread-safe.",
        "Days and years.", "Calendars.", "Leap years.", "Weeks.", "Texts.", "Feasts.", "Moved feasts.", "Readings.",
        "Changes.", "Details.", "The constructor and the methods follow", "How the state is held",
        "Use of one object from several threads", "Nothing is promised beyond"};

    private final List<String> sections = new ArrayList<>();
    private final List<String> sentences = new ArrayList<>();
    private final List<Boolean> tested = new ArrayList<>();

    private BoundaryTest() {
    }

    public static void main(String[] args) throws Exception {
        String wanted = args.length > 0 ? args[0] : "";
        BoundaryTest document = new BoundaryTest();
        document.read(Files.readString(Path.of("../shared/DOC.md")));
        int run = 0;
        for (Class<?> one : TESTS) {
            Method[] methods = one.getDeclaredMethods();
            Arrays.sort(methods, Comparator.comparing(Method::getName));
            for (Method method : methods) {
                Says says = method.getAnnotation(Says.class);
                if (says != null && method.getName().startsWith(wanted)) {
                    run++;
                    document.quote(method.getName(), says);
                    Boundary.begin(method.getName());
                    Due.is(method.getName() + " ended", null, () -> method.invoke(null));
                }
            }
        }
        if (wanted.isEmpty()) {
            document.demandAll();
        }
        System.out.println("tests of sentences: " + run);
        Due.end("BoundaryTest");
    }

    private void read(String document) {
        boolean code = false;
        String section = "";
        StringBuilder paragraph = new StringBuilder();
        for (String line : (document + "\n\n").split("\n", -1)) {
            boolean fence = line.startsWith("```");
            boolean begins = line.startsWith("- ") || line.contains(" = ");
            if (fence || begins || line.isBlank() || line.startsWith("#")) {
                add(section, paragraph.toString());
                paragraph.setLength(0);
            }
            code ^= fence;
            if (!code && line.startsWith("#")) {
                section = line.replaceFirst("^#+ ", "").replaceFirst("^Promise (\\d+):.*", "$1");
            } else if (!code && !fence && !line.isBlank()) {
                paragraph.append(paragraph.length() == 0 ? "" : " ").append(line.trim());
                if (line.contains(" = ")) {
                    add(section, paragraph.toString());
                    paragraph.setLength(0);
                }
            }
        }
    }

    private void add(String section, String paragraph) {
        for (String sentence : paragraph.split("(?<=\\.) (?=[A-Z])")) {
            if (!sentence.isBlank()) {
                sections.add(section);
                sentences.add(sentence);
                tested.add(sentence.startsWith("`"));
            }
        }
    }

    private void quote(String test, Says says) {
        for (String quoted : says.value()) {
            int found = 0;
            for (int i = 0; i < sentences.size(); i++) {
                if (sections.get(i).equals(says.in()) && sentences.get(i).contains(quoted)) {
                    tested.set(i, true);
                    found++;
                }
            }
            Due.same(test + " quotes \"" + quoted + "\", sentences", "1", String.valueOf(found));
        }
    }

    private void demandAll() {
        int free = 0;
        for (int i = 0; i < sentences.size(); i++) {
            String sentence = sentences.get(i);
            boolean nothing = Arrays.stream(NOTHING_TO_TEST).anyMatch(sentence::startsWith);
            free += nothing ? 1 : 0;
            Due.same("no test of \"" + sentence + "\" in " + sections.get(i), "true", String.valueOf(nothing || tested.get(i)));
        }
        Due.same("sentences without anything to test", String.valueOf(NOTHING_TO_TEST.length), String.valueOf(free));
        Due.same("sentences were read", "true", String.valueOf(sentences.size() > 300));
    }
}
