import java.lang.reflect.InvocationTargetException;
import java.lang.reflect.Method;
import java.nio.file.Path;
import java.util.Arrays;
import java.util.Comparator;
import java.util.TreeSet;

/**
 * Runs every method that has a sentence of the document at it, looks whether the document says that, and whether
 * each exception that the document names has a test of its own.
 */
public final class EdgesTest {
    private static final Class<?>[] CLASSES = {
        MastEdges.class, HandsetEdges.class, SecondEdges.class, CallEdges.class,
        ToldEdges.class, DoneEdges.class, AskedEdges.class, WouldBeEdges.class};

    private static final TreeSet<String> tested = new TreeSet<>();

    public static void main(String[] args) throws Exception {
        Document document = new Document(Path.of("..", "shared", "DOC.md"));
        for (Class<?> type : CLASSES) {
            Method[] methods = type.getDeclaredMethods();
            Arrays.sort(methods, Comparator.comparing(Method::getName));
            for (Method method : methods) {
                Says says = method.getAnnotation(Says.class);
                if (says != null) {
                    test(document, method, says);
                }
            }
        }
        for (String refusal : document.refusals()) {
            Check.due("tested: " + refusal, tested.contains(refusal), true);
        }
        System.out.println(tested.size() + " sentences have a test of their own");
        Check.end();
    }

    private static void test(Document document, Method method, Says says) throws IllegalAccessException {
        String name = method.getDeclaringClass().getName() + "." + method.getName();
        Check.due(name + ": the document says that", document.has(says.where(), says.words()), true);
        Check.due(name + ": no other test has it", tested.add(says.where() + ": " + Document.plain(says.words())), true);
        try {
            method.invoke(null);
        } catch (InvocationTargetException e) {
            Check.tell(name + " threw " + e.getCause());
        }
    }
}
