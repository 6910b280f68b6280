import java.lang.reflect.InvocationTargetException;
import java.lang.reflect.Method;
import java.lang.reflect.Modifier;
import java.util.ArrayList;
import java.util.Arrays;
import java.util.List;
import java.util.Map;
import java.util.TreeMap;

/** The class and the model side by side: each call is made on both, and what they answer must be the same. */
final class Beside {
    private static final long LONG = 4000000000000000000L;

    final List<String> calls = new ArrayList<>();
    final Map<String, Integer> answers = new TreeMap<>();
    final Map<String, Method[]> methods = new TreeMap<>();
    ArchiveOfDeltas archive;
    Model model;
    long last;

    Beside() throws Exception {
        for (Method method : ArchiveOfDeltas.class.getDeclaredMethods()) {
            if (Modifier.isPublic(method.getModifiers())) {
                Method twin = Model.class.getMethod(method.getName(), method.getParameterTypes());
                twin.setAccessible(true);
                methods.put(method.getName(), new Method[] {method, twin});
            }
        }
        begin();
    }

    void begin() {
        archive = new ArchiveOfDeltas();
        model = new Model();
        calls.clear();
    }

    int parameters(String name) {
        return methods.get(name)[0].getParameterCount();
    }

    boolean same(String name, int... numbers) throws Exception {
        Object[] given = Arrays.stream(numbers).boxed().toArray();
        Method[] two = methods.get(name);
        last = ((Number) two[0].invoke(archive, given)).longValue();
        long want;
        try {
            want = ((Number) two[1].invoke(model, given)).longValue();
        } catch (InvocationTargetException e) {
            if (!(e.getCause() instanceof Model.Refused r)) {
                throw e;
            }
            want = model.refuse(r);
            want = two[0].getReturnType() == long.class ? LONG - want : want;
        }
        String call = name + Arrays.toString(numbers) + " = " + last;
        calls.add(call);
        answers.merge(name + " " + kind(last), 1, Integer::sum);
        if (last != want) {
            calls.add(call + ", due is " + want);
        }
        return last == want;
    }

    private static String kind(long answer) {
        if (answer >= LONG) {
            return "" + (LONG - answer);
        }
        return answer >= 0 ? "+" : answer > -10 ? "" + answer : answer > -2000 ? "kind 1" : "kind 2";
    }

    boolean tells(String text) throws Exception {
        for (char c : text.toCharArray()) {
            if (!same("letter", c)) {
                return false;
            }
        }
        return true;
    }

    /** Whether all that is counted is the same. */
    boolean counts() throws Exception {
        for (int what = 0; what <= 16; what++) {
            if (!same("count", what)) {
                return false;
            }
        }
        return true;
    }

    /** Whether all that can be seen of versions, heads and the repacker is the same, in some 300 calls at most. */
    boolean looks() throws Exception {
        int there = model.count(1);
        for (int v = 0; v < 10; v++) {
            for (int what = 1; what <= 8 && (there >> v & 1) == 1; what++) {
                if (!same("version", v, what)) {
                    return false;
                }
            }
            int letters = (there >> v & 1) == 1 ? archive.version(v, 0) : 0;
            for (int i = 0; i < letters; i++) {
                if (!same("spelt", v, i)) {
                    return false;
                }
            }
        }
        for (int h = 0; h < 4; h++) {
            if (!same("generations", h, 0)) {
                return false;
            }
        }
        return same("whatIs", 0) && same("whatIs", 1) && counts();
    }
}
