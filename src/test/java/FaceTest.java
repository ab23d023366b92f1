import java.lang.reflect.Constructor;
import java.lang.reflect.Field;
import java.lang.reflect.Method;
import java.lang.reflect.Modifier;
import java.util.Arrays;
import java.util.HashSet;
import java.util.Set;
import java.util.TreeSet;

/** The members that others see are those of the document, with their throws clauses in its order. */
public final class FaceTest {
    private static final String[] FACE = {
        "public static final int LogBook.NONE",
        "public LogBook()",
        "public void LogBook.set(int,int) throws java.lang.IllegalStateException,java.lang.IndexOutOfBoundsException",
        "public void LogBook.fill(int,int) throws java.lang.IllegalStateException",
        "public int LogBook.append(int,int,int,int) throws java.lang.IllegalStateException,java.lang.IllegalArgumentException",
        "public int LogBook.force(int) throws java.lang.IllegalStateException,java.util.NoSuchElementException",
        "public int LogBook.forceAll() throws java.lang.IllegalStateException",
        "public int LogBook.giveBack(int) throws java.lang.IllegalStateException,java.util.NoSuchElementException",
        "public int LogBook.first() throws java.lang.IllegalStateException",
        "public int LogBook.last() throws java.lang.IllegalStateException",
        "public int LogBook.lastForced() throws java.lang.IllegalStateException",
        "public int LogBook.next(int) throws java.lang.IllegalStateException,java.util.NoSuchElementException",
        "public int LogBook.before(int) throws java.lang.IllegalStateException,java.util.NoSuchElementException",
        "public int LogBook.lastOf(int) throws java.lang.IllegalStateException,java.lang.IllegalArgumentException",
        "public int LogBook.of(int,int) throws java.lang.IllegalStateException,java.util.NoSuchElementException,java.lang.IndexOutOfBoundsException",
        "public int LogBook.word(int,int) throws java.lang.IllegalStateException,java.util.NoSuchElementException,java.lang.IndexOutOfBoundsException",
        "public int LogBook.back(int,int,int) throws java.lang.IllegalStateException,java.lang.IllegalArgumentException",
        "public int LogBook.count() throws java.lang.IllegalStateException",
        "public int LogBook.log(int) throws java.lang.IndexOutOfBoundsException",
        "public void LogBook.cutAfter(int) throws java.lang.IllegalArgumentException",
        "public boolean LogBook.cut()",
        "public int LogBook.open() throws java.lang.IllegalStateException",
        "public boolean LogBook.isOpen()",
    };

    public static void main(String[] args) {
        TreeSet<String> seen = new TreeSet<>();
        for (Field f : LogBook.class.getDeclaredFields()) {
            if (!Modifier.isPrivate(f.getModifiers())) seen.add(f.toString());
        }
        for (Constructor<?> c : LogBook.class.getDeclaredConstructors()) {
            if (!Modifier.isPrivate(c.getModifiers())) seen.add(c.toString());
        }
        for (Method m : LogBook.class.getDeclaredMethods()) {
            if (!Modifier.isPrivate(m.getModifiers())) seen.add(m.toString());
        }
        TreeSet<String> wanted = new TreeSet<>(Arrays.asList(FACE));

        Due due = new Due();
        due.yes("LogBook is final", Modifier.isFinal(LogBook.class.getModifiers()));
        due.is("NONE", -1, () -> LogBook.NONE);
        for (String member : wanted) due.yes("the face has " + member, seen.contains(member));
        for (String member : seen) due.yes("the document has " + member, wanted.contains(member));
        language(due);
        due.end();
    }

    /** The rules of LANGUAGE.md that show in the compiled class. */
    private static void language(Due due) {
        Set<String> publicNames = new HashSet<>();
        for (Method m : LogBook.class.getMethods()) publicNames.add(m.getName());
        for (Method m : LogBook.class.getDeclaredMethods()) {
            boolean hidden = Modifier.isPrivate(m.getModifiers());
            due.no("rule 1: a public method has the name of the private " + m, hidden && publicNames.contains(m.getName()));
            due.yes("rule 2: no lambda: " + m, !m.isSynthetic());
            due.yes("rule 11: seven parameters: " + m, m.getParameterCount() <= 7);
        }
        int fields = 0;
        for (Field f : LogBook.class.getDeclaredFields()) {
            if (Modifier.isStatic(f.getModifiers())) {
                due.yes("rule 5: final: " + f, Modifier.isFinal(f.getModifiers()));
            } else {
                fields++;
            }
        }
        due.yes("rule 11: twenty fields", fields <= 20);
        due.yes("rule 11: twelve classes", LogBook.class.getDeclaredClasses().length < 12);
    }
}
