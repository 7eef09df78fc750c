import java.lang.reflect.InvocationTargetException;
import java.lang.reflect.Method;
import java.util.Arrays;
import java.util.HashMap;
import java.util.Map;

/** The class and the model side by side: each call is made on both, and both have to answer alike. */
final class Twins {
    private static final Map<String, Method[]> METHODS = new HashMap<>();
    private static final String[] PLAIN = {"lines", "macros", "fault", "faultLine", "itemsByCounting", "words",
        "relocations", "passes", "longJumps", "items", "shortShare", "meanWord"};
    private static final String[] OF_ITEMS = {"lineOf", "kindOf", "depthOf", "addressOf", "addressByAdding",
        "targetOf"};

    private final MacroBench bench = new MacroBench();
    private final Model model = new Model();
    private final StringBuilder told = new StringBuilder();
    private boolean alike = true;

    Twins() throws ReflectiveOperationException {
        if (METHODS.isEmpty()) {
            for (Method method : Model.class.getMethods()) {
                if (method.getDeclaringClass() == Model.class) {
                    Method twin = MacroBench.class.getMethod(method.getName(), method.getParameterTypes());
                    METHODS.put(method.getName(), new Method[] {twin, method});
                }
            }
        }
    }

    /** Whether all answers so far were alike. */
    boolean areAlike() {
        return alike;
    }

    /** Asks both and gives the answer that is due; the first difference is told with all calls before it. */
    Object ask(String name, Object... operands) throws ReflectiveOperationException {
        Method[] twins = METHODS.get(name);
        Object due = outcome(twins[1], model, operands);
        Object got = outcome(twins[0], bench, operands);
        told.append(name).append(Arrays.toString(operands)).append(' ').append(got).append('\n');
        if (alike) {
            Check.same(name, due, got);
            alike = due.equals(got);
            if (!alike) {
                System.out.println(told);
            }
        }
        return due;
    }

    private static Object outcome(Method method, Object on, Object[] operands) throws ReflectiveOperationException {
        try {
            return method.invoke(on, operands);
        } catch (InvocationTargetException thrown) {
            return "throws " + thrown.getCause().getClass().getSimpleName();
        }
    }

    /** Asks all that can be asked without feeding lines. */
    void compareAll() throws ReflectiveOperationException {
        for (String name : PLAIN) {
            ask(name);
        }
        for (int name = -3; name < 22; name++) {
            ask("labelAddress", name);
        }
        int words = ask("words") instanceof Integer count ? count : 1;
        for (int index = -1; index <= words && alike; index++) {
            ask("wordAt", index);
            ask("loadedWord", index, Math.floorMod(index * 997, 10200) - 100);
        }
        int items = ask("items") instanceof Integer count ? count : 1;
        for (int item = -1; item <= items && alike; item++) {
            for (String name : OF_ITEMS) {
                ask(name, item);
            }
        }
    }
}
