import java.lang.management.ManagementFactory;
import java.lang.reflect.InvocationTargetException;
import java.lang.reflect.Method;
import java.lang.reflect.Modifier;
import java.util.ArrayList;
import java.util.Arrays;
import java.util.Comparator;
import java.util.List;

/** No call throws, for any numbers in any state, also behind the 512th; and no call makes an object. */
public final class AnyCallTest {
    private static final int[] ODD = {0, 1, 2, 3, 4, 5, 6, 7, 8, 9, 10, 11, 12, 13, -1, -2, 20, 21, 31, 32, 33, 63, 64, 96,
        97, 99, 100, 255, 256, 1023, 1024, Integer.MAX_VALUE, Integer.MIN_VALUE, Integer.MIN_VALUE + 1, -1000, 65536};
    private static final String[] TEXTS = {
        "v..abcabcabc;v0.abcabcabd;v1.ddabcabc;v12abcabcabc;v..hgfe;h03;h12;r;",
        "v..abcdefghabcd;v0.bcdefghabcda;v1.cdefghabcdab;v2.defghabcdabc;k30;d8;r;h03;",
        "x000h;k52;r;c;v..a;h0.;", "v..a;v..a;v..a;v..a;v..a;v..a;v..a;", "r;r;x", ";", "v..a"};

    private static long seed = 5;

    private static int draw(int m) {
        seed = seed * 6364136223846793005L + 1442695040888963407L;
        return (int) ((seed >>> 33) % m);
    }

    public static void main(String[] args) throws Exception {
        boolean isFine = noCallThrows() & noCallMakesAnObject();
        System.out.println(isFine ? "no call throws, none makes an object" : "not so");
        if (!isFine) {
            System.exit(1);
        }
    }

    private static boolean noCallThrows() throws Exception {
        List<Method> methods = new ArrayList<>();
        for (Method method : ArchiveOfDeltas.class.getDeclaredMethods()) {
            if (Modifier.isPublic(method.getModifiers())) {
                methods.add(method);
            }
        }
        methods.sort(Comparator.comparing(Method::getName));
        for (int run = 0; run < 400; run++) {
            ArchiveOfDeltas x = new ArchiveOfDeltas();
            for (int call = 0; call < 1200; call++) {
                if (draw(40) == 0) {
                    tell(x, TEXTS[draw(TEXTS.length)]);
                }
                Method method = methods.get(draw(methods.size()));
                Object[] numbers = new Object[method.getParameterCount()];
                for (int i = 0; i < numbers.length; i++) {
                    numbers[i] = ODD[draw(draw(2) == 0 ? 14 : ODD.length)];
                }
                try {
                    method.invoke(x, numbers);
                } catch (InvocationTargetException e) {
                    System.out.println(method.getName() + Arrays.toString(numbers) + " throws " + e.getCause());
                    return false;
                }
            }
        }
        return true;
    }

    private static void tell(ArchiveOfDeltas x, String text) {
        for (int i = 0; i < text.length(); i++) {
            x.letter(text.charAt(i));
        }
        x.archive();
    }

    private static boolean noCallMakesAnObject() {
        com.sun.management.ThreadMXBean threads =
                (com.sun.management.ThreadMXBean) ManagementFactory.getThreadMXBean();
        long self = Thread.currentThread().getId();
        ArchiveOfDeltas x = new ArchiveOfDeltas();
        long sum = everyCall(x) + threads.getThreadAllocatedBytes(self);
        long before = threads.getThreadAllocatedBytes(self);
        for (int i = 0; i < 50; i++) {
            sum += everyCall(x);
        }
        long made = threads.getThreadAllocatedBytes(self) - before;
        // what the looking itself makes
        if (made > 4096) {
            System.out.println("calls made " + made + " bytes of objects (" + sum + ")");
            return false;
        }
        return true;
    }

    private static long everyCall(ArchiveOfDeltas x) {
        long sum = x.image();
        for (int i = 0; i < TEXTS.length; i++) {
            tell(x, TEXTS[i]);
            for (int v = -1; v < 11; v++) {
                for (int what = -1; what < 10; what++) {
                    sum += x.version(v, what) + x.spelt(v, what) + x.step(v, what, 0) + x.step(v, what, 1);
                    sum += x.delta(v, what, 0) + x.common(v, what) + x.bestBase(v, what) + x.fetch(v, 3, what);
                    sum += x.generations(v, what) + x.repacked(what) + x.best(what) + x.reached(what) + x.count(what);
                    sum += x.lost(v, 5, what) + x.mean(what) + x.whatIs(what) + x.row(what);
                }
                sum += x.ancestors(v) + x.twin(v) + x.hurt(v) + x.wrong() + x.judge(v) + x.clear() + x.lots(1, v, 0);
            }
            sum += x.edits(0, 0, 8) + x.merges(0, 1) + x.heads(0, 1) + x.kind(i, i) + x.bound(i) + x.repack();
            sum += x.damages(0, 0, i) + x.collect() + x.on() + x.lots(20, i, 1);
        }
        return sum;
    }
}
