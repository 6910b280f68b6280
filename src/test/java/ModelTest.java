import java.util.ArrayList;
import java.util.List;

/** Runs of 512 calls, made by draws, on the class and on the model: every answer must be the same. */
public final class ModelTest {
    private static final int RUNS = Integer.getInteger("runs", 3000);

    private final Beside two;
    private final List<String> names = new ArrayList<>();
    private long seed = 1;
    private Model model;

    private ModelTest() throws Exception {
        two = new Beside();
        names.addAll(two.methods.keySet());
    }

    public static void main(String[] args) throws Exception {
        System.exit(new ModelTest().all() ? 0 : 1);
    }

    private boolean all() throws Exception {
        for (int run = 1; run <= RUNS; run++) {
            seed = run * 7919L;
            if (!run()) {
                System.out.println("run " + run + ":");
                two.calls.forEach(System.out::println);
                return false;
            }
        }
        int kinds = two.answers.size();
        System.out.println(RUNS + " runs as the model has it, " + kinds + " kinds of answers");
        if (Boolean.getBoolean("show")) {
            two.answers.forEach((k, v) -> System.out.println(k + " " + v));
        }
        return true;
    }

    private int draw(int m) {
        seed = seed * 6364136223846793005L + 1442695040888963407L;
        return (int) ((seed >>> 33) % m);
    }

    private boolean run() throws Exception {
        two.begin();
        model = two.model;
        int greed = draw(4);
        while (two.calls.size() < 512) {
            int choice = draw(100);
            boolean same;
            if (choice < 6) {
                same = tells(text());
            } else if (choice < 9) {
                same = rows();
            } else if (choice < 12 + 6 * greed) {
                same = looks();
            } else {
                same = any();
            }
            if (!same) {
                return false;
            }
        }
        return true;
    }

    private boolean any() throws Exception {
        String name = names.get(draw(names.size()));
        if (name.equals("collect") && draw(4) > 0 || name.equals("on") && draw(4) > 0) {
            name = draw(2) == 0 ? "edits" : "heads";
        }
        int[] numbers = new int[two.parameters(name)];
        for (int i = 0; i < numbers.length; i++) {
            numbers[i] = number();
        }
        if (draw(3) > 0) {
            fit(name, numbers);
        }
        return same(name, numbers);
    }

    /** Makes most of the numbers such as the call takes. */
    private void fit(String name, int[] numbers) {
        switch (name) {
            case "edits": case "damages": case "version": case "spelt": case "step": case "bestBase":
            case "ancestors": case "twin": case "hurt": case "judge":
                numbers[0] = there();
                break;
            case "merges": case "delta": case "common":
                numbers[0] = there();
                numbers[1] = there();
                break;
            case "heads":
                numbers[0] = draw(4);
                numbers[1] = draw(6) == 0 ? -1 : there();
                break;
            case "fetch":
                numbers[0] = draw(4);
                numbers[1] = draw(4) == 0 ? draw(1024) : 1 << draw(10) & 1023;
                numbers[2] = draw(3);
                break;
            case "generations": case "lost":
                numbers[0] = draw(4);
                numbers[1] = draw(10) + (name.equals("lost") ? 2 : 0);
                break;
            case "kind":
                numbers[0] = draw(6);
                numbers[1] = draw(10);
                break;
            case "lots":
                numbers[0] = 1 + draw(3);
                numbers[1] = (int) (seed ^ seed >>> 32);
                numbers[2] = draw(2);
                break;
            case "letter":
                numbers[0] = draw(260) - 2;
                break;
            default:
                break;
        }
        int last = numbers.length - 1;
        if (last == 2 && name.equals("edits")) {
            numbers[1] = draw(13);
            numbers[2] = draw(9);
        }
    }

    private int there() {
        int bits = model.count(1);
        int v = draw(10);
        for (int i = 0; i < 10 && (bits >> v & 1) == 0; i++) {
            v = (v + 1) % 10;
        }
        return v;
    }

    private int number() {
        int choice = draw(40);
        if (choice == 0) {
            return -1 - draw(2);
        }
        if (choice == 1) {
            int[] odd = {Integer.MIN_VALUE, Integer.MAX_VALUE, 20, 21, 1023, 1024, 99, 100, 255, 256, 31, 32, 33};
            return odd[draw(odd.length)];
        }
        return choice < 20 ? draw(4) : choice < 32 ? draw(10) : draw(14);
    }

    private boolean looks() throws Exception {
        for (int what = 0; what <= 7; what++) {
            if (!same("count", what)) {
                return false;
            }
        }
        int v = there();
        for (int what = 0; what <= 8; what++) {
            if (!same("version", v, what)) {
                return false;
            }
        }
        int i = draw(6);
        return same("step", v, i, 0) && same("step", v, i, 1) && same("spelt", v, i) && same("wrong")
                && same("reached", 2);
    }

    private boolean rows() throws Exception {
        if (!same("clear")) {
            return false;
        }
        int v = there();
        boolean isJudged = draw(2) == 0;
        int[] due = new int[14];
        int most = 0;
        if (isJudged) {
            for (int i = 0; i < 12; i++) {
                int letter = spelt(v, i);
                if (letter >= 0) {
                    due[most++] = letter;
                }
            }
        } else {
            for (int i = 0; i < 10; i++) {
                int base = base(i);
                due[most++] = base == -1 ? 11 : base == -9 ? 10 : base;
            }
            most = draw(12) == 0 ? 12 : draw(11);
            due[10] = 11;
            due[11] = draw(2) == 0 ? 11 : 10;
        }
        if (draw(3) == 0) {
            due[draw(12)] = draw(12);
            most = Math.max(0, most + draw(3) - 1);
        }
        for (int i = 0; i < most; i++) {
            if (!same("row", due[i])) {
                return false;
            }
        }
        return isJudged ? same("judge", v) : same("whatIs", 0) && same("whatIs", 1) && same("repacked", 0);
    }

    private int spelt(int v, int i) {
        try {
            return model.spelt(v, i);
        } catch (Model.Refused r) {
            return -1;
        }
    }

    private int base(int v) {
        try {
            return model.version(v, 3);
        } catch (Model.Refused r) {
            return -1;
        }
    }

    private boolean tells(String text) throws Exception {
        return two.tells(text) && (draw(20) == 0 || same("archive"));
    }

    private String text() {
        StringBuilder text = new StringBuilder();
        int came = model.count(0);
        int many = came == 0 ? 5 + draw(4) : draw(8);
        String before = "abcabcabcabc";
        for (int i = 0; i < many; i++) {
            int choice = draw(came == 0 ? 4 : 12);
            if (choice < 6 && came < 10 + draw(30) / 29) {
                before = varied(before);
                char first = parent(came);
                char second = draw(3) == 0 && first != '.' ? parent(came) : '.';
                text.append('v').append(first).append(second == first && draw(9) > 0 ? '.' : second);
                text.append(before).append(';');
                came++;
            } else if (choice < 8) {
                text.append('h').append(draw(33) / 8).append(draw(6) == 0 ? "." : "" + draw(Math.max(1, came))).append(';');
            } else if (choice == 8) {
                text.append('k').append(draw(49) / 8).append(draw(10)).append(";r;");
            } else if (choice == 9) {
                text.append('d').append(draw(37) / 4).append(";");
            } else if (choice == 10) {
                text.append(draw(9) == 0 ? "c;" : "r;");
            } else {
                text.append('x').append(draw(Math.max(1, came))).append('0').append(draw(draw(3) == 0 ? 10 : 2));
                text.append((char) ('a' + draw(8))).append(';');
            }
        }
        if (draw(8) == 0 && text.length() > 0) {
            String odd = ";.0129vhkdrcxabghi \u00e9";
            text.setCharAt(draw(text.length()), odd.charAt(draw(odd.length())));
        }
        if (draw(16) == 0 && text.length() > 0) {
            text.setLength(draw(text.length()));
        }
        return text.toString();
    }

    private char parent(int came) {
        return came == 0 || draw(4) == 0 ? '.' : (char) ('0' + draw(Math.min(10, came)));
    }

    private String varied(String before) {
        StringBuilder text = new StringBuilder(before);
        switch (draw(5)) {
            case 0: text.setCharAt(draw(text.length()), (char) ('a' + draw(8))); break;
            case 1: text.setLength(1 + draw(text.length())); break;
            case 2: text.insert(draw(text.length()), (char) ('a' + draw(8))); break;
            case 3: text.insert(0, text.substring(draw(text.length()))); break;
            default: text.reverse();
        }
        if (draw(15) > 0 && text.length() > 12) {
            text.setLength(12);
        }
        return text.toString();
    }

    private boolean same(String name, int... numbers) throws Exception {
        return two.same(name, numbers);
    }
}
