import java.util.ArrayList;
import java.util.Collections;
import java.util.Comparator;
import java.util.HashSet;
import java.util.LinkedHashMap;
import java.util.List;
import java.util.Map;
import java.util.Set;
import java.util.TreeSet;
import java.util.regex.Matcher;
import java.util.regex.Pattern;

/** The document once more, written plainly with texts and lists, to compare answers with. */
public final class Model {
    private static final Pattern ARCHIVE = Pattern.compile("(?:v[0-9.][0-9.][a-h]{1,12};|h[0-9][0-9.];|k[0-9][0-9];"
            + "|d[0-9];|r;|c;|x[0-9][0-9][0-9][a-h];)+");

    static final class Refused extends RuntimeException {
        final int number;

        Refused(int number) {
            super(null, null, false, false);
            this.number = number;
        }
    }

    private record Step(boolean isCopy, int where, int many) {
    }

    private record Placed(Integer base, int depth, int cost) {
    }

    private static final class V {
        boolean there = true;
        Integer first;
        Integer second;
        String stored;
        int hash;
        Integer base;
        List<Step> steps;

        V copy() {
            V v = new V();
            v.there = there;
            v.first = first;
            v.second = second;
            v.stored = stored;
            v.hash = hash;
            v.base = base;
            v.steps = steps;
            return v;
        }
    }

    private static final class World {
        List<V> all = new ArrayList<>();
        Integer[] heads = new Integer[4];
        int kind = 0;
        int figure = 0;
        int bound = 4;

        World copy() {
            World w = new World();
            for (V v : all) {
                w.all.add(v.copy());
            }
            w.heads = heads.clone();
            w.kind = kind;
            w.figure = figure;
            w.bound = bound;
            return w;
        }

        boolean isThere(int v) {
            return v >= 0 && v < all.size() && all.get(v).there;
        }

        List<Integer> there() {
            List<Integer> list = new ArrayList<>();
            for (int v = 0; v < all.size(); v++) {
                if (all.get(v).there) {
                    list.add(v);
                }
            }
            return list;
        }

        String restored(int v) {
            V it = all.get(v);
            if (it.base == null) {
                return it.stored;
            }
            String from = restored(it.base);
            StringBuilder text = new StringBuilder();
            for (Step step : it.steps) {
                if (step.isCopy) {
                    text.append(from, step.where, step.where + step.many);
                } else {
                    text.append((char) ('a' + step.where));
                }
            }
            return text.toString();
        }

        int add(Integer first, Integer second, String letters) {
            V v = new V();
            v.first = first;
            v.second = second;
            v.stored = letters;
            v.hash = hash(letters);
            all.add(v);
            return all.size() - 1;
        }

        int depth(int v) {
            return all.get(v).base == null ? 0 : 1 + depth(all.get(v).base);
        }

        int cost(int v) {
            return all.get(v).base == null ? 1 + restored(v).length() : costOf(all.get(v).steps);
        }

        int cost() {
            return there().stream().mapToInt(this::cost).sum();
        }

        Set<Integer> reached(Integer v) {
            Set<Integer> set = new TreeSet<>();
            if (v != null) {
                set.add(v);
                set.addAll(reached(all.get(v).first));
                set.addAll(reached(all.get(v).second));
            }
            return set;
        }

        Set<Integer> reached() {
            Set<Integer> set = new TreeSet<>();
            for (Integer head : heads) {
                set.addAll(reached(head));
            }
            return set;
        }

        Map<Integer, Placed> plan(int kind, int figure, int bound) {
            List<Integer> order = new ArrayList<>(there());
            if (kind == 2 || kind == 3) {
                Collections.reverse(order);
            } else if (kind != 0) {
                order.sort(Comparator.comparingInt(v -> -restored(v).length()));
            }
            int savings = kind == 4 ? figure + 1 : 1;
            Map<Integer, Placed> placed = new LinkedHashMap<>();
            for (int v : order) {
                List<Integer> ahead = new ArrayList<>(placed.keySet());
                if (kind == 5) {
                    ahead = ahead.subList(Math.max(0, ahead.size() - figure), ahead.size());
                }
                Placed best = new Placed(null, 0, 1 + restored(v).length() - savings + 1);
                for (int from : ahead) {
                    if (kind == 3 && !isParent(from, v) && !isParent(v, from)) {
                        continue;
                    }
                    int cost = costOf(Model.steps(restored(from), restored(v)));
                    if (placed.get(from).depth < bound && cost < best.cost) {
                        best = new Placed(from, placed.get(from).depth + 1, cost);
                    }
                }
                placed.put(v, best.base == null ? new Placed(null, 0, 1 + restored(v).length()) : best);
            }
            return placed;
        }

        boolean isParent(int a, int b) {
            Integer parent = a;
            return parent.equals(all.get(b).first) || parent.equals(all.get(b).second);
        }

        void repack() {
            Map<Integer, Placed> plan = plan(kind, figure, bound);
            Map<Integer, String> letters = new LinkedHashMap<>();
            for (int v : plan.keySet()) {
                letters.put(v, restored(v));
            }
            for (int v : plan.keySet()) {
                V it = all.get(v);
                it.base = plan.get(v).base;
                it.stored = it.base == null ? letters.get(v) : null;
                it.steps = it.base == null ? null : Model.steps(letters.get(it.base), letters.get(v));
            }
        }

        int collect() {
            Set<Integer> live = reached();
            Map<Integer, String> wholes = new LinkedHashMap<>();
            int gone = 0;
            for (int v : there()) {
                Integer base = all.get(v).base;
                if (live.contains(v) && base != null && !live.contains(base)) {
                    wholes.put(v, restored(v));
                }
            }
            for (Map.Entry<Integer, String> whole : wholes.entrySet()) {
                all.get(whole.getKey()).base = null;
                all.get(whole.getKey()).stored = whole.getValue();
            }
            for (int v : there()) {
                if (!live.contains(v)) {
                    all.get(v).there = false;
                    gone++;
                }
            }
            return gone;
        }

        void damage(int v, int place, int letter) {
            V it = all.get(v);
            it.stored = it.stored.substring(0, place) + (char) ('a' + letter) + it.stored.substring(place + 1);
        }

        Set<Integer> needs(Integer v) {
            Set<Integer> set = new TreeSet<>();
            for (Integer link = v; link != null; link = all.get(link).base) {
                set.add(link);
            }
            return set;
        }

        boolean says(String s) {
            switch (s.charAt(0)) {
                case 'v': {
                    Integer a = s.charAt(1) == '.' ? null : Integer.valueOf(s.charAt(1) - '0');
                    Integer b = s.charAt(2) == '.' ? null : Integer.valueOf(s.charAt(2) - '0');
                    if (all.size() == 10 || a == null && b != null || a != null && a.equals(b)) {
                        return false;
                    }
                    if (a != null && !isThere(a) || b != null && !isThere(b)) {
                        return false;
                    }
                    add(a, b, s.substring(3));
                    return true;
                }
                case 'h': {
                    int h = s.charAt(1) - '0';
                    Integer v = s.charAt(2) == '.' ? null : Integer.valueOf(s.charAt(2) - '0');
                    if (h > 3 || v != null && !isThere(v)) {
                        return false;
                    }
                    heads[h] = v;
                    return true;
                }
                case 'k':
                    kind = s.charAt(1) - '0';
                    figure = s.charAt(2) - '0';
                    return kind <= 5;
                case 'd':
                    bound = s.charAt(1) - '0';
                    return bound <= 8;
                case 'r':
                    repack();
                    return true;
                case 'c':
                    collect();
                    return true;
                default: {
                    int v = s.charAt(1) - '0';
                    int place = Integer.parseInt(s.substring(2, 4));
                    if (!isThere(v) || all.get(v).base != null || place >= restored(v).length()) {
                        return false;
                    }
                    damage(v, place, s.charAt(4) - 'a');
                    return true;
                }
            }
        }
    }

    private World w = new World();
    private World kept = null;
    private String told = "";
    private List<Integer> row = new ArrayList<>();
    private final int[] refused = new int[7];

    static int hash(String letters) {
        int h = 7;
        for (char c : letters.toCharArray()) {
            h = (31 * h + c - 'a') % 9973;
        }
        return h;
    }

    static List<Step> steps(String s, String t) {
        List<Step> steps = new ArrayList<>();
        int at = 0;
        while (at < t.length()) {
            int many = t.length() - at;
            while (many >= 2 && !s.contains(t.substring(at, at + many))) {
                many--;
            }
            if (many >= 2) {
                steps.add(new Step(true, s.indexOf(t.substring(at, at + many)), many));
                at += many;
            } else {
                steps.add(new Step(false, t.charAt(at) - 'a', 0));
                at++;
            }
        }
        return steps;
    }

    static int costOf(List<Step> steps) {
        return 1 + steps.stream().mapToInt(s -> s.isCopy ? 2 : 1).sum();
    }

    private static int bits(Iterable<Integer> set) {
        int bits = 0;
        for (int v : set) {
            bits |= 1 << v;
        }
        return bits;
    }

    private static void unless(boolean holds, int number) {
        if (!holds) {
            throw new Refused(number);
        }
    }

    /** What the call answers by its refusal. */
    int refuse(Refused r) {
        refused[-r.number]++;
        return r.number;
    }

    private static int orNine(Integer v) {
        return v == null ? -9 : v;
    }

    public int letter(int c) {
        unless(c >= 0, -4);
        unless(c <= 255 && told.length() < 96, -6);
        told += (char) c;
        return told.length();
    }

    public int archive() {
        String text = told;
        told = "";
        for (int i = 1; i <= text.length(); i++) {
            Matcher m = ARCHIVE.matcher(text.substring(0, i));
            if (!m.matches() && !m.hitEnd()) {
                return -1000 - (i - 1);
            }
        }
        if (!ARCHIVE.matcher(text).matches()) {
            return -1000 - text.length();
        }
        World next = w.copy();
        int place = 0;
        String[] statements = text.split(";");
        for (String s : statements) {
            if (!next.says(s)) {
                return -2000 - place;
            }
            place += s.length() + 1;
        }
        w = next;
        return statements.length;
    }

    public int edits(int v, int place, int letter) {
        unless(w.isThere(v), -1);
        String old = w.restored(v);
        unless(place >= 0 && place <= old.length(), -1);
        unless(letter >= 0 && letter <= 8, -2);
        unless(letter != 8 || old.length() > 1, -3);
        unless(letter != 8 || place < old.length(), -3);
        unless(place < 12, -6);
        unless(w.all.size() < 10, -6);
        String behind = place < old.length() ? old.substring(place + 1) : "";
        String put = letter == 8 ? "" : "" + (char) ('a' + letter);
        return w.add(v, null, old.substring(0, place) + put + behind);
    }

    public int merges(int a, int b) {
        unless(w.isThere(a), -1);
        unless(w.isThere(b), -1);
        unless(a != b, -3);
        unless(w.all.size() < 10, -6);
        return w.add(a, b, w.restored(a));
    }

    public int heads(int h, int v) {
        unless(h >= 0 && h <= 3, -1);
        unless(v == -1 || w.isThere(v), -1);
        int old = orNine(w.heads[h]);
        w.heads[h] = v == -1 ? null : Integer.valueOf(v);
        return old;
    }

    public int kind(int kind, int figure) {
        unless(kind >= 0 && kind <= 5, -2);
        unless(figure >= 0, -4);
        unless(figure <= 9, -6);
        int old = w.kind * 10 + w.figure;
        w.kind = kind;
        w.figure = figure;
        return old;
    }

    public int bound(int n) {
        unless(n >= 0, -4);
        unless(n <= 8, -6);
        int old = w.bound;
        w.bound = n;
        return old;
    }

    public int repack() {
        w.repack();
        return w.cost();
    }

    public int collect() {
        return w.collect();
    }

    public int damages(int v, int place, int letter) {
        unless(w.isThere(v), -1);
        unless(w.all.get(v).base == null, -3);
        unless(place >= 0 && place < w.restored(v).length(), -1);
        unless(letter >= 0 && letter <= 7, -2);
        int old = w.restored(v).charAt(place) - 'a';
        w.damage(v, place, letter);
        return old;
    }

    public int version(int v, int what) {
        unless(w.isThere(v), -1);
        unless(what >= 0 && what <= 8, -2);
        V it = w.all.get(v);
        int[] answers = {w.restored(v).length(), orNine(it.first), orNine(it.second), orNine(it.base), w.depth(v),
            w.cost(v), it.hash, hash(w.restored(v)) == it.hash ? 1 : 0, it.base == null ? 0 : it.steps.size()};
        return answers[what];
    }

    public int spelt(int v, int i) {
        unless(w.isThere(v), -1);
        unless(i >= 0 && i < w.restored(v).length(), -1);
        return w.restored(v).charAt(i) - 'a';
    }

    public int step(int v, int i, int what) {
        unless(w.isThere(v), -1);
        unless(w.all.get(v).base != null && i >= 0 && i < w.all.get(v).steps.size(), -1);
        unless(what == 0 || what == 1, -2);
        Step step = w.all.get(v).steps.get(i);
        return what == 0 ? step.many : step.where;
    }

    public int delta(int from, int to, int what) {
        unless(w.isThere(from), -1);
        unless(w.isThere(to), -1);
        unless(what >= 0 && what <= 2, -2);
        List<Step> steps = steps(w.restored(from), w.restored(to));
        int copies = (int) steps.stream().filter(Step::isCopy).count();
        return what == 0 ? costOf(steps) : what == 1 ? steps.size() : copies;
    }

    private static int about(Map<Integer, Placed> plan, int what) {
        if (what == 0) {
            return plan.values().stream().mapToInt(Placed::cost).sum();
        }
        if (what == 1) {
            return plan.values().stream().mapToInt(Placed::depth).max().orElse(0);
        }
        return (int) plan.values().stream().filter(p -> p.base == null).count();
    }

    public int repacked(int what) {
        unless(what >= 0 && what <= 2, -2);
        return about(w.plan(w.kind, w.figure, w.bound), what);
    }

    public int best(int what) {
        unless(what == 0 || what == 1, -2);
        List<Integer> costs = new ArrayList<>();
        for (int i = 0; i < (what == 0 ? 9 : 6); i++) {
            costs.add(about(what == 0 ? w.plan(w.kind, w.figure, i) : w.plan(i, w.figure, w.bound), 0));
        }
        return costs.indexOf(Collections.min(costs));
    }

    public int bestBase(int v, int what) {
        unless(w.isThere(v), -1);
        unless(what == 0 || what == 1, -2);
        int best = -9;
        int least = -9;
        List<Integer> others = w.there();
        Collections.reverse(others);
        for (int other : others) {
            int cost = costOf(steps(w.restored(other), w.restored(v)));
            if (other != v && (best == -9 || cost <= least)) {
                best = other;
                least = cost;
            }
        }
        return what == 0 ? best : least;
    }

    public int reached(int what) {
        unless(what >= 0 && what <= 2, -2);
        List<Integer> live = new ArrayList<>(w.there());
        live.retainAll(w.reached());
        List<Integer> garbage = new ArrayList<>(w.there());
        garbage.removeAll(live);
        Set<String> contents = new HashSet<>();
        w.there().forEach(v -> contents.add(w.restored(v)));
        return what == 0 ? bits(live) : what == 1 ? bits(garbage) : contents.size();
    }

    public int ancestors(int v) {
        unless(w.isThere(v), -1);
        Set<Integer> set = w.reached(v);
        set.remove(v);
        return bits(set);
    }

    public int common(int a, int b) {
        unless(w.isThere(a), -1);
        unless(w.isThere(b), -1);
        Set<Integer> set = w.reached(a);
        set.retainAll(w.reached(b));
        return set.isEmpty() ? -9 : Collections.max(set);
    }

    public int generations(int h, int n) {
        unless(h >= 0 && h <= 3, -1);
        unless(n >= 0, -4);
        unless(n <= 9, -6);
        return bits(generation(w.heads[h], n));
    }

    private Set<Integer> generation(Integer v, int n) {
        Set<Integer> set = new TreeSet<>();
        if (v != null) {
            set.add(v);
            if (n > 0) {
                set.addAll(generation(w.all.get(v).first, n - 1));
                set.addAll(generation(w.all.get(v).second, n - 1));
            }
        }
        return set;
    }

    public int twin(int v) {
        unless(w.isThere(v), -1);
        return w.there().stream().filter(o -> w.restored(o).equals(w.restored(v))).findFirst().get();
    }

    public int fetch(int h, int has, int what) {
        unless(h >= 0 && h <= 3, -1);
        unless(has >= 0, -4);
        unless(has <= 1023, -6);
        unless(what >= 0 && what <= 2, -2);
        Set<Integer> had = new TreeSet<>();
        for (int v = 0; v < w.all.size(); v++) {
            if ((has & 1 << v) != 0) {
                had.addAll(w.reached(v));
            }
        }
        Set<Integer> sent = w.reached(w.heads[h]);
        sent.removeAll(had);
        sent.retainAll(w.there());
        int cost = 0;
        int whole = 0;
        for (int v : sent) {
            Integer base = w.all.get(v).base;
            if (base == null || sent.contains(base) || had.contains(base) && w.isThere(base)) {
                cost += w.cost(v);
            } else {
                cost += 1 + w.restored(v).length();
                whole++;
            }
        }
        return what == 0 ? bits(sent) : what == 1 ? cost : whole;
    }

    public int wrong() {
        List<Integer> list = w.there();
        list.removeIf(v -> hash(w.restored(v)) == w.all.get(v).hash);
        return bits(list);
    }

    public int hurt(int v) {
        unless(w.isThere(v), -1);
        List<Integer> list = w.there();
        list.removeIf(o -> !w.needs(o).contains(v));
        return bits(list);
    }

    public long lost(int h, int t, int part) {
        unless(h >= 0 && h <= 3, -1);
        unless(w.heads[h] != null, -3);
        unless(t >= 2, -4);
        unless(t <= 20, -6);
        unless(part == 0 || part == 1, -2);
        long above = 1;
        long below = 1;
        for (int v : w.needs(w.heads[h])) {
            if (v <= 5) {
                above *= t - 1;
                below *= t;
            }
        }
        return part == 0 ? above : below;
    }

    public long mean(int part) {
        unless(part == 0 || part == 1, -2);
        int above = w.cost();
        int below = w.there().size();
        if (above == 0) {
            return part;
        }
        for (int d = below; d > 1; d--) {
            if (above % d == 0 && below % d == 0) {
                above /= d;
                below /= d;
            }
        }
        return part == 0 ? above : below;
    }

    public int whatIs(int what) {
        unless(what == 0 || what == 1, -2);
        int bits = 0;
        for (int i = 0; i < (what == 0 ? 6 : 10); i++) {
            Map<Integer, Placed> plan = what == 0 ? w.plan(i, w.figure, w.bound) : w.plan(w.kind, i, w.bound);
            boolean all = true;
            for (int v = 0; v < row.size(); v++) {
                int is = !plan.containsKey(v) ? 11 : plan.get(v).base == null ? 10 : plan.get(v).base;
                all &= row.get(v) == is;
            }
            bits |= all ? 1 << i : 0;
        }
        return bits;
    }

    public int row(int v) {
        unless(v >= 0, -4);
        unless(v <= 99 && row.size() < 12, -6);
        row.add(v);
        return row.size();
    }

    public int judge(int v) {
        unless(w.isThere(v), -1);
        String due = w.restored(v);
        List<Integer> said = row;
        row = new ArrayList<>();
        for (int i = 0; i < said.size(); i++) {
            if (i == due.length() || said.get(i) != due.charAt(i) - 'a') {
                return i;
            }
        }
        return said.size() < due.length() ? said.size() : -9;
    }

    public int clear() {
        int old = row.size();
        row = new ArrayList<>();
        return old;
    }

    private int seed;

    private int draw(int m) {
        seed = seed * 1664525 + 1013904223;
        return (seed & 0x7fffffff) / 256 % m;
    }

    public int lots(int n, int z, int what) {
        unless(n >= 1, -4);
        unless(n <= 20, -6);
        unless(what == 0 || what == 1, -2);
        seed = z;
        int sum = 0;
        for (int i = 0; i < n; i++) {
            World lot = w.copy();
            for (int j = 0; j < 6; j++) {
                if (lot.all.size() == 10) {
                    continue;
                }
                List<Integer> there = lot.there();
                if (there.isEmpty()) {
                    lot.add(null, null, "a");
                } else {
                    int v = there.get(draw(there.size()));
                    StringBuilder text = new StringBuilder(lot.restored(v));
                    int place = draw(text.length());
                    text.setCharAt(place, (char) ('a' + draw(8)));
                    lot.add(v, null, text.toString());
                }
            }
            lot.repack();
            sum += what == 0 ? lot.cost() : (int) lot.there().stream().filter(v -> lot.all.get(v).base == null).count();
        }
        return sum;
    }

    public int image() {
        kept = w.copy();
        return w.there().size();
    }

    public int on() {
        unless(kept != null, -3);
        w = kept.copy();
        return w.there().size();
    }

    public int count(int what) {
        switch (what) {
            case 0: return w.all.size();
            case 1: return bits(w.there());
            case 2: return w.cost();
            case 3: return w.there().stream().mapToInt(w::depth).max().orElse(0);
            case 4: {
                List<Integer> list = w.there();
                list.removeIf(v -> w.all.get(v).base != null);
                return bits(list);
            }
            case 5: return w.bound;
            case 6: return row.size();
            case 7: return told.length();
            default: return what >= 11 && what <= 16 ? refused[what - 10] : -9;
        }
    }
}
