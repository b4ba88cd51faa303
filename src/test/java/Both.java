import java.lang.reflect.InvocationTargetException;
import java.lang.reflect.Method;
import java.util.ArrayList;
import java.util.HashMap;
import java.util.List;
import java.util.Map;

/** An exchange and a model that get the same calls, and must give the same answers. */
final class Both {
    private static final Map<String, Method> EXCHANGE = methods(HorizonExchange.class);
    private static final Map<String, Method> MODEL = methods(Model.class);

    final Model model = new Model();
    private final HorizonExchange exchange = new HorizonExchange();
    private final List<String> calls = new ArrayList<>();
    private boolean wrong;

    int size() {
        return calls.size();
    }

    boolean isWrong() {
        return wrong;
    }

    /** The answer; the first one that is not the same in both is told with the calls that led to it. */
    String call(String name, int... all) throws ReflectiveOperationException {
        Method method = EXCHANGE.get(name);
        Object[] args = new Object[method.getParameterCount()];
        for (int i = 0; i < args.length; i++) {
            args[i] = name.equals("type") ? (Object) (char) all[i] : (Object) all[i];
        }
        calls.add(name + List.of(args));
        String got = answer(method, exchange, args);
        String due = answer(MODEL.get(name), model, args);
        if (!got.equals(due) && !wrong) {
            wrong = true;
            System.out.println(String.join("\n", calls) + " answered " + got + ", due is " + due);
        }
        return got;
    }

    void type(String text) throws ReflectiveOperationException {
        for (int index = 0; index < text.length(); index++) {
            call("type", text.charAt(index));
        }
    }

    private static Map<String, Method> methods(Class<?> owner) {
        Map<String, Method> all = new HashMap<>();
        for (Method method : owner.getDeclaredMethods()) {
            all.put(method.getName(), method);
        }
        return all;
    }

    private static String answer(Method method, Object on, Object[] args) throws ReflectiveOperationException {
        try {
            return String.valueOf(method.invoke(on, args));
        } catch (InvocationTargetException e) {
            return "throws." + e.getCause().getClass().getName();
        }
    }
}
