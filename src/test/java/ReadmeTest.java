import java.io.IOException;
import java.lang.reflect.Method;
import java.lang.reflect.Modifier;
import java.nio.file.Files;
import java.nio.file.Path;
import java.util.ArrayList;
import java.util.List;
import java.util.Map;
import java.util.TreeMap;
import java.util.regex.Matcher;
import java.util.regex.Pattern;

/** README.md tells the class as it is: its example's answers and its table of calls. */
public final class ReadmeTest {
    private static final Due DUE = new Due();
    private static final Pattern CALL = Pattern.compile("^\\| `(\\w+)\\(([^)]*)\\)` \\|.*\\|([^|]*)\\|$");
    private static final Pattern EXCEPTION = Pattern.compile("\\w+Exception");

    public static void main(String[] args) throws IOException {
        example();
        tableOfCalls(Files.readAllLines(Path.of("README.md")));
        DUE.end();
    }

    /** The calls of the example, in its order. */
    private static void example() {
        LogBook book = new LogBook();
        book.fill(100, 1);
        DUE.is("a", 0, () -> book.append(1, 0, LogBook.NONE, 3));
        DUE.is("b", 8, () -> book.append(2, 5, LogBook.NONE, 0));
        DUE.is("c", 13, () -> book.append(3, 0, LogBook.NONE, 1));
        DUE.is("word(a, 2)", 102, () -> book.word(0, 2));
        DUE.is("of(c, 2)", 0, () -> book.of(13, 2));
        DUE.is("back(0, 1 << 1, 0)", 0, () -> book.back(0, 1 << 1, 0));
        DUE.is("force(b)", 13, () -> book.force(8));
        book.cutAfter(2);
        DUE.is("forceAll()", LogBook.NONE, book::forceAll);
        DUE.no("isOpen()", book.isOpen());
        DUE.is("open()", 4, book::open);
        DUE.is("last()", 8, book::last);
        DUE.is("giveBack(b)", 8, () -> book.giveBack(8));
    }

    private static void tableOfCalls(List<String> lines) {
        Map<String, String> told = new TreeMap<>();
        for (String line : lines) {
            Matcher row = CALL.matcher(line);
            if (row.matches()) {
                told.put(row.group(1) + "/" + parameters(row.group(2)), exceptions(row.group(3)));
            }
        }
        Map<String, String> there = new TreeMap<>();
        there.put("LogBook/0", "");
        for (Method m : LogBook.class.getDeclaredMethods()) {
            if (Modifier.isPublic(m.getModifiers())) {
                there.put(m.getName() + "/" + m.getParameterCount(), exceptions(List.of(m.getExceptionTypes()).toString()));
            }
        }
        there.forEach((call, thrown) -> DUE.yes("README.md tells " + call + " with [" + thrown + "]",
                thrown.equals(told.get(call))));
        told.keySet().forEach(call -> DUE.yes("the face has " + call, there.containsKey(call)));
    }

    private static int parameters(String list) {
        return list.isEmpty() ? 0 : list.split(",").length;
    }

    /** The exceptions' names alone, without packages and reasons. */
    private static String exceptions(String text) {
        List<String> names = new ArrayList<>();
        Matcher name = EXCEPTION.matcher(text);
        while (name.find()) {
            names.add(name.group());
        }
        return String.join(" ", names);
    }
}
