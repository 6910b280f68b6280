import java.lang.reflect.InvocationTargetException;
import java.lang.reflect.Method;
import java.util.Set;
import java.util.TreeMap;
import java.util.TreeSet;
import java.util.function.ToLongFunction;

/** What the tests by hand share: archives told, answers compared, refusals that change nothing. */
abstract class Due {
    static final long LONG = 4000000000000000000L;
    static final int LEAST = Integer.MIN_VALUE;
    static final int GREATEST = Integer.MAX_VALUE;

    /**
     * 0 abcabcabc, 1 abcabcabd of 0, 2 ddabcabc of 1, 3 abcabcabc of 1 and 2, 4 hgfe alone; head 0 is 3, head 1 is 2.
     */
    static final String FIVE = "v..abcabcabc;v0.abcabcabd;v1.ddabcabc;v12abcabcabc;v..hgfe;h03;h12;";
    /** The same, PLAIN: 0 whole, 1 by 0 (4), 2 by 0 (5), 3 by 0 (3), 4 whole. */
    static final String PACKED = FIVE + "r;";
    /** Each is best told from the one before it. */
    static final String CHAIN = "v..aabbccddeeff;v..ggaabbccddee;v..hhggaabbccdd;v..fehhggaabbcc;";
    /** 0, 1 of 0, 2 of 0, 3 of 1 and 2, 4 alone, 5 of 4. */
    static final String FAMILY = "v..a;v0.ab;v0.ac;v12ab;v..ab;v4.c;";
    /** Ten of one letter: no room for more. */
    static final String FULL = "v..a;".repeat(10);
    /** 0 is gone, 1 is there. */
    static final String ONE_GONE = "v..a;v..b;h01;c;";

    private static String test = "";
    private static int wrong = 0;

    /** Runs the tests of a class, named pNN_.. by their promise: false, if an answer is not as due or a promise has none. */
    static boolean allHold(Class<?> tests, int first, int last) throws Exception {
        TreeMap<String, Method> found = new TreeMap<>();
        Set<Integer> tested = new TreeSet<>();
        for (Method method : tests.getDeclaredMethods()) {
            if (method.getName().matches("p\\d\\d_\\w+")) {
                found.put(method.getName(), method);
                tested.add(Integer.parseInt(method.getName().substring(1, 3)));
            }
        }
        for (Method method : found.values()) {
            test = method.getName();
            method.setAccessible(true);
            try {
                method.invoke(null);
            } catch (InvocationTargetException e) {
                due("a call threw " + e.getCause(), 1, 0);
            }
        }
        for (int promise = first; promise <= last; promise++) {
            test = "promise " + promise;
            due("has a test", tested.contains(promise) ? 1 : 0, 1);
        }
        System.out.println(tests.getName() + ": " + found.size() + " tests of promises " + first + " to " + last + ": "
                + (wrong == 0 ? "all answers are as due" : wrong + " are not as due"));
        return wrong == 0;
    }

    static void due(String what, long got, long want) {
        if (got != want) {
            wrong++;
            System.out.println(test + ": " + what + " answered " + got + ", due is " + want);
        }
    }

    static ArchiveOfDeltas told(String... texts) {
        ArchiveOfDeltas x = new ArchiveOfDeltas();
        for (String text : texts) {
            comes(x, text);
        }
        return x;
    }

    static void comes(ArchiveOfDeltas x, String text) {
        due("archive of " + text, tell(x, text), text.chars().filter(c -> c == ';').count());
    }

    static int tell(ArchiveOfDeltas x, String text) {
        for (int i = 0; i < text.length(); i++) {
            x.letter(text.charAt(i));
        }
        return x.archive();
    }

    /** All that can be seen without a refusal, but the row and the letters. */
    static String seen(ArchiveOfDeltas x) {
        StringBuilder all = new StringBuilder();
        for (int what = 0; what <= 5; what++) {
            all.append(x.count(what)).append(' ');
        }
        int there = x.count(1);
        for (int v = 0; v < 10; v++) {
            if ((there >> v & 1) == 1) {
                for (int what = 1; what <= 8; what++) {
                    all.append(x.version(v, what)).append(' ');
                }
                all.append(spelling(x, v)).append(' ');
            }
        }
        for (int h = 0; h < 4; h++) {
            all.append(x.generations(h, 0)).append(' ');
        }
        int repacker = x.kind(0, 0);
        x.kind(repacker / 10, repacker % 10);
        return all.append(repacker).toString();
    }

    static void sees(String what, ArchiveOfDeltas x, String before) {
        String after = seen(x);
        due(what + ", " + before + " is " + after, after.equals(before) ? 1 : 0, 1);
    }

    static String spelling(ArchiveOfDeltas x, int v) {
        StringBuilder text = new StringBuilder();
        int letters = x.version(v, 0);
        for (int i = 0; i < letters; i++) {
            text.append((char) ('a' + x.spelt(v, i)));
        }
        return text.toString();
    }

    static void spelled(ArchiveOfDeltas x, int v, String want) {
        String is = spelling(x, v);
        due("spelling of " + v + ": " + is + " for " + want, is.equals(want) ? 1 : 0, 1);
    }

    static void bases(String what, ArchiveOfDeltas x, int... due) {
        for (int v = 0; v < due.length; v++) {
            due(what + ": base of " + v, x.version(v, 3), due[v]);
        }
    }

    static void rowOf(ArchiveOfDeltas x, int... numbers) {
        x.clear();
        for (int number : numbers) {
            x.row(number);
        }
    }

    static int hash(String letters) {
        int hash = 7;
        for (char c : letters.toCharArray()) {
            hash = (hash * 31 + c - 'a') % 9973;
        }
        return hash;
    }

    static void refused(ArchiveOfDeltas x, int... due) {
        for (int i = 0; i < due.length; i++) {
            due("refusals " + (-1 - i), x.count(11 + i), due[i]);
        }
    }

    /** A call that is refused: it answers the number, counts it once, and nothing else changes. */
    static void refuses(String text, String what, ToLongFunction<ArchiveOfDeltas> call, int number) {
        ArchiveOfDeltas x = text.isEmpty() ? new ArchiveOfDeltas() : told(text);
        String before = seen(x);
        due("letters", x.letter('r'), 1);
        due("row", x.row(10), 1);
        long got = call.applyAsLong(x);
        due(what, got > LONG / 2 ? LONG - got : got, number);
        due("row after " + what, x.count(6), 1);
        due("letters after " + what, x.count(7), 1);
        for (int i = 11; i <= 16; i++) {
            due(what + ", then count(" + i + ")", x.count(i), i == 10 - number ? 1 : 0);
        }
        sees("nothing changes by " + what, x, before);
        due("the row is as it was", x.row(11), 2);
        due("the letters are as they were", x.letter(';') == 2 ? x.archive() : 0, 1);
    }

    static void refuses(String what, ToLongFunction<ArchiveOfDeltas> call, int number) {
        refuses(PACKED, what, call, number);
    }
}
