import java.util.ArrayList;
import java.util.List;

/** Every call with every combination of numbers at and beside the document's bounds, in many states, as the model has it. */
public final class GridTest {
    private static final int[] EDGES = {Integer.MIN_VALUE, -2, -1, 0, 1, 2, 3, 4, 5, 6, 7, 8, 9, 10, 11, 12, 13, 20, 21, 32,
        99, 100, 255, 256, 1023, 1024, Integer.MAX_VALUE};
    private static final String[] CHANGES = {"archive", "edits", "merges", "heads", "kind", "bound", "repack", "collect",
        "damages", "letter", "row", "judge", "clear", "image", "on"};
    /** What is ahead of the calls: texts, each an archive; #N numbers in the row; !N letters told; i an image. */
    private static final String[][] STATES = {
        {},
        {"i", "v..abcabcabc;v0.abcabcabd;v1.ddabcabc;v12abcabcabc;v..hgfe;h03;h12;r;", "#3"},
        {"v..a;v..b;v..c;v..d;v..e;v..f;v..g;v..h;v..aa;v..ab;", "h09;h10;h28;h35;", "#12"},
        {"v..a;v..b;v..c;v..d;v..e;v..f;v..g;v..h;v..aa;v..ab;c;", "!96"},
        {"v..abcdefghabcd;v0.abcdefghabc;v1.a;v0.ab;k40;d8;r;h02;h33;x000h;c;", "#1", "!1"},
        {"v..aabbccddeeff;v..faaabbccddee;v..ddfaaabbccdd;v..baddfaaabbcc;v..cfbaddfaaabb;", "d8;r;h04;h10;", "#11"},
        {"v..aabb;v..aabb;v..aabb;v..aabb;v..aabb;h04;h13;c;k51;r;", "i", "v3.ccdd;h25;", "#2"},
        {"v..a;v0.a;v1.a;v2.a;v3.a;v4.a;v5.a;v6.a;v7.a;v8.a;h09;k30;", "i", "h00;c;", "!95"},
        {"v..aabbaabb;v0.aabbaabh;v01aabbaab;k20;r;h02;x202h;", "d0;"},
    };

    private final Beside two = new Beside();
    private int calls = 0;

    private GridTest() throws Exception {
    }

    public static void main(String[] args) throws Exception {
        System.exit(new GridTest().all() ? 0 : 1);
    }

    private boolean all() throws Exception {
        List<String> changes = List.of(CHANGES);
        for (String[] state : STATES) {
            for (String name : two.methods.keySet()) {
                if (!grid(state, name, changes.contains(name))) {
                    System.out.println(name + " in " + String.join(" ", state) + ":");
                    two.calls.forEach(System.out::println);
                    return false;
                }
            }
        }
        System.out.println(calls + " calls at the bounds as the model has it, " + two.answers.size() + " kinds of answers");
        return true;
    }

    private boolean begins(String[] state) throws Exception {
        two.begin();
        for (String part : state) {
            int many = part.matches("[#!]\\d+") ? Integer.parseInt(part.substring(1)) : 0;
            boolean isFine = true;
            if (part.equals("i")) {
                isFine = two.same("image");
            } else if (many == 0) {
                isFine = two.tells(part) && two.same("archive") && two.last > 0;
            }
            for (int i = 0; i < many; i++) {
                isFine &= part.charAt(0) == '#' ? two.same("row", i == 0 ? 10 : 0) : two.same("letter", "r;".charAt(i % 2));
            }
            if (!isFine) {
                return false;
            }
        }
        return true;
    }

    private boolean grid(String[] state, String name, boolean isChange) throws Exception {
        int parameters = two.parameters(name);
        int many = 1;
        for (int i = 0; i < parameters; i++) {
            many *= EDGES.length;
        }
        if (!begins(state)) {
            return false;
        }
        for (int at = 0; at < many; at++) {
            if (!two.same(name, numbers(at, parameters))) {
                return false;
            }
            calls++;
            boolean isRefused = two.last < 0 && two.last > -9 || two.last >= Due.LONG;
            if (two.calls.size() > 200) {
                if (!two.counts() || !begins(state)) {
                    return false;
                }
            } else if (isChange && !isRefused || at == many - 1) {
                if (!two.looks() || !begins(state)) {
                    return false;
                }
            }
        }
        return true;
    }

    private static int[] numbers(int at, int parameters) {
        int[] numbers = new int[parameters];
        int rest = at;
        for (int i = 0; i < parameters; i++) {
            numbers[i] = EDGES[rest % EDGES.length];
            rest /= EDGES.length;
        }
        return numbers;
    }
}
