import java.util.ArrayList;
import java.util.HashSet;
import java.util.LinkedHashMap;
import java.util.List;
import java.util.Map;
import java.util.Set;

/** Runs one test for each boundary case, under the promise and the words of the document that it stands for. */
final class Edges {
    private static final String DESCRIPTION = "Description";
    private static final String NO_SUCH_COLUMN = "Throws `IndexOutOfBoundsException` if there is no such column";
    private static final String LEADS_ON = "The constructor and the methods follow, a promise each: ";

    private final Document document;
    private final Map<String, List<String>> quoted = new LinkedHashMap<>();
    private final Set<String> names = new HashSet<>();

    /** A call for one column. */
    interface ColumnCall {
        Object answer(TypedColumns x, int c);
    }

    Edges(Document document) {
        this.document = document;
    }

    void promise(int number, String words, String edge, Runnable test) {
        run(document.heading("Promise " + number + ":"), words, edge, test);
    }

    void description(String words, String edge, Runnable test) {
        run(DESCRIPTION, words, edge, test);
    }

    void run(String heading, String words, String edge, Runnable test) {
        String name = heading + " | " + words + " | " + edge + ": ";
        quoted.computeIfAbsent(heading, h -> new ArrayList<>()).add(words);
        Check.about(name);
        Check.same("whether the test has a name of its own", names.add(name), true);
        Check.same("that these words stand in the document", document.says(heading, words), true);
        int before = Check.made();
        try {
            test.run();
        } catch (RuntimeException e) {
            Check.same("the test", "throws." + e.getClass().getSimpleName(), "an answer");
        }
        Check.same("whether the test checks anything", Check.made() > before, true);
        Check.about("");
    }

    /** The tests of a promise whose method refuses numbers that are no column's. */
    void noSuchColumn(int number, ColumnCall call) {
        noSuchColumn(number, "", call);
    }

    void noSuchColumn(int number, String which, ColumnCall call) {
        promise(number, NO_SUCH_COLUMN, "in a new object, no number is a column's" + which, () -> {
            for (int c : new int[] {0, -1, 1}) {
                refusesColumn(new TypedColumns(), call, c);
            }
        });
        promise(number, NO_SUCH_COLUMN, "with ten columns, a number too small" + which, () -> {
            for (int c : new int[] {-1, -10, Integer.MIN_VALUE}) {
                refusesColumn(accessed(), call, c);
            }
        });
        promise(number, NO_SUCH_COLUMN, "with ten columns, a number too large" + which, () -> {
            for (int c : new int[] {10, 11, 59, 60, Integer.MAX_VALUE}) {
                refusesColumn(accessed(), call, c);
            }
        });
        promise(number, NO_SUCH_COLUMN, "with 60 columns, the number 60" + which, () -> {
            for (int c : new int[] {60, 61, -1}) {
                refusesColumn(Kinds.full(1), call, c);
            }
        });
    }

    /** A store whose latest code is neither 0 nor one that a refused call could well give. */
    private static TypedColumns accessed() {
        TypedColumns x = Kinds.store(2);
        x.copy(5, 0, 6, 0, 1);
        return x;
    }

    private static void refusesColumn(TypedColumns x, ColumnCall call, int c) {
        Check.refuses(x, "the call for column " + c, () -> call.answer(x, c), IndexOutOfBoundsException.class);
    }

    /** Checks that each sentence of the description and of each promise is quoted by a test. */
    void tellWhatIsNotQuoted() {
        for (String heading : document.headings()) {
            if (!heading.equals(DESCRIPTION) && !heading.startsWith("Promise ")) {
                continue;
            }
            for (String sentence : document.sentences(heading)) {
                if (!sentence.startsWith(LEADS_ON)) {
                    Check.same("whether a test quotes '" + sentence + "' of " + heading, isQuoted(heading, sentence),
                            true);
                }
            }
        }
        System.out.println(names.size() + " boundary cases");
    }

    private boolean isQuoted(String heading, String sentence) {
        for (String words : quoted.getOrDefault(heading, List.of())) {
            if (sentence.contains(words) || words.contains(sentence)) {
                return true;
            }
        }
        return false;
    }
}
