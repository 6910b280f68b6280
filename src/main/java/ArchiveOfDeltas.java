/** Makes all its rows in its constructor, so that no call makes an object. */
public final class ArchiveOfDeltas {
    private static final int NOBODY = -1;
    private static final int OTHER = -2;
    private static final int STATE = -3;
    private static final int BELOW = -4;
    private static final int ROOM = -6;
    private static final int LACKING = -9;
    private static final long REFUSED_LONG = 4000000000000000000L;
    private static final int GREATEST_INT = 2147483647;

    private static final int NONE = -1;
    private static final int MOST_VERSIONS = 10;
    private static final int MOST_LETTERS = 12;
    private static final int KINDS_OF_LETTERS = 8;
    private static final int LEFT_OUT = 8;
    private static final int MOST_HEADS = 4;
    private static final int MOST_TOLD = 96;
    private static final int GREATEST_TOLD = 255;
    private static final int MOST_IN_ROW = 12;
    private static final int GREATEST_IN_ROW = 99;
    private static final int MOST_FIGURE = 9;
    private static final int MOST_BOUND = 8;
    private static final int FIRST_BOUND = 4;
    private static final int MOST_GENERATIONS = 9;
    private static final int MOST_LOTS = 20;
    private static final int EDITS_OF_A_LOT = 6;
    private static final int LEAST_ODDS = 2;
    private static final int MOST_ODDS = 20;
    private static final int MAY_BE_LOST = 63;
    private static final int ALL_VERSIONS = 1023;

    private static final int PLAIN = 0;
    private static final int LONGEST = 1;
    private static final int NEWEST = 2;
    private static final int KIN = 3;
    private static final int THRIFT = 4;
    private static final int WINDOW = 5;
    private static final int KINDS = 6;

    private static final int TOLD_WHOLE = 10;
    private static final int TOLD_NOT_THERE = 11;

    private static final int FAULT_OF_FORM = -1000;
    private static final int FAULT_OF_SENSE = -2000;

    private final Store now;
    private final Store taken;
    private final Store trial;
    private final Plan plan;
    private final Delta between;
    private final Told told;
    private final Numbers numbers;
    private final Draws draws;
    private final int[] refusals;
    private boolean isTaken;

    public ArchiveOfDeltas() {
        now = new Store();
        taken = new Store();
        trial = new Store();
        plan = new Plan();
        between = new Delta();
        told = new Told();
        numbers = new Numbers(MOST_IN_ROW);
        draws = new Draws();
        refusals = new int[7];
        isTaken = false;
    }

    // ---- what changes the archive ----

    public int letter(int c) {
        if (c < 0) {
            return refuse(BELOW);
        }
        if (c > GREATEST_TOLD || told.signs.isFull()) {
            return refuse(ROOM);
        }
        told.signs.add(c);
        return told.signs.size;
    }

    public int archive() {
        int fault = told.placeOfFault();
        int answer = fault == NONE ? 0 : FAULT_OF_FORM - fault;
        // on a trial, so that with a fault nothing has come
        trial.copyFrom(now);
        for (int at = 0; at < told.signs.size && answer >= 0; at = Math.max(at + 1, told.placeBehind(at))) {
            answer = told.runsAt(at, trial, plan) ? answer + 1 : FAULT_OF_SENSE - at;
        }
        if (answer >= 0) {
            now.copyFrom(trial);
        }
        told.signs.empty();
        return answer;
    }

    public int edits(int v, int place, int letter) {
        if (!now.holds(v)) {
            return refuse(NOBODY);
        }
        int size = now.versions[v].letters.size;
        if (place < 0 || place > size) {
            return refuse(NOBODY);
        }
        if (letter < 0 || letter > LEFT_OUT) {
            return refuse(OTHER);
        }
        if (letter == LEFT_OUT && (size == 1 || place == size)) {
            return refuse(STATE);
        }
        if (place == MOST_LETTERS || !now.hasRoom()) {
            return refuse(ROOM);
        }
        return now.comesEdited(v, place, letter);
    }

    public int merges(int a, int b) {
        if (!now.holds(a) || !now.holds(b)) {
            return refuse(NOBODY);
        }
        if (a == b) {
            return refuse(STATE);
        }
        if (!now.hasRoom()) {
            return refuse(ROOM);
        }
        return now.comes(a, b, now.versions[a].letters);
    }

    public int heads(int h, int v) {
        if (!isHead(h) || v != NONE && !now.holds(v)) {
            return refuse(NOBODY);
        }
        int before = now.tops[h];
        now.tops[h] = v;
        return orLacking(before);
    }

    public int kind(int kind, int figure) {
        if (kind < 0 || kind >= KINDS) {
            return refuse(OTHER);
        }
        if (figure < 0) {
            return refuse(BELOW);
        }
        if (figure > MOST_FIGURE) {
            return refuse(ROOM);
        }
        int before = 10 * now.kind + now.figure;
        now.kind = kind;
        now.figure = figure;
        return before;
    }

    public int bound(int n) {
        if (n < 0) {
            return refuse(BELOW);
        }
        if (n > MOST_BOUND) {
            return refuse(ROOM);
        }
        int before = now.bound;
        now.bound = n;
        return before;
    }

    public int repack() {
        plan.learn(now);
        plan.make(now.kind, now.figure, now.bound);
        now.storeBy(plan);
        return now.costOfAll();
    }

    public int collect() {
        return now.dropGarbage();
    }

    public int damages(int v, int place, int letter) {
        if (!now.holds(v)) {
            return refuse(NOBODY);
        }
        Version one = now.versions[v];
        if (!one.isWhole()) {
            return refuse(STATE);
        }
        if (place < 0 || place >= one.letters.size) {
            return refuse(NOBODY);
        }
        if (letter < 0 || letter >= KINDS_OF_LETTERS) {
            return refuse(OTHER);
        }
        int before = one.letters.at(place);
        now.damageAt(v, place, letter);
        return before;
    }

    // ---- what versions are ----

    public int version(int v, int what) {
        if (!now.holds(v)) {
            return refuse(NOBODY);
        }
        Version one = now.versions[v];
        switch (what) {
            case 0: return one.letters.size;
            case 1: return orLacking(one.first);
            case 2: return orLacking(one.second);
            case 3: return orLacking(one.base);
            case 4: return now.depthOf(v);
            case 5: return one.cost();
            case 6: return one.hash;
            case 7: return one.isSound() ? 1 : 0;
            case 8: return one.isWhole() ? 0 : one.steps.size;
            default: return refuse(OTHER);
        }
    }

    public int spelt(int v, int i) {
        if (!now.holds(v) || i < 0 || i >= now.versions[v].letters.size) {
            return refuse(NOBODY);
        }
        return now.versions[v].letters.at(i);
    }

    public int step(int v, int i, int what) {
        if (!now.holds(v)) {
            return refuse(NOBODY);
        }
        Version one = now.versions[v];
        if (one.isWhole() || i < 0 || i >= one.steps.size) {
            return refuse(NOBODY);
        }
        if (what < 0 || what > 1) {
            return refuse(OTHER);
        }
        return what == 0 ? one.steps.copied[i] : one.steps.source[i];
    }

    public int delta(int from, int to, int what) {
        if (!now.holds(from) || !now.holds(to)) {
            return refuse(NOBODY);
        }
        if (what < 0 || what > 2) {
            return refuse(OTHER);
        }
        between.make(now.versions[from].letters, now.versions[to].letters);
        if (what == 0) {
            return between.cost();
        }
        return what == 1 ? between.size : between.copies;
    }

    // ---- what a repack would be ----

    public int repacked(int what) {
        if (what < 0 || what > 2) {
            return refuse(OTHER);
        }
        plan.learn(now);
        plan.make(now.kind, now.figure, now.bound);
        if (what == 0) {
            return plan.cost;
        }
        return what == 1 ? plan.greatestDepth : plan.wholes;
    }

    public int best(int what) {
        if (what < 0 || what > 1) {
            return refuse(OTHER);
        }
        int choices = what == 0 ? MOST_BOUND + 1 : KINDS;
        int best = 0;
        int least = GREATEST_INT;
        plan.learn(now);
        for (int i = 0; i < choices; i++) {
            if (what == 0) {
                plan.make(now.kind, now.figure, i);
            } else {
                plan.make(i, now.figure, now.bound);
            }
            if (plan.cost < least) {
                least = plan.cost;
                best = i;
            }
        }
        return best;
    }

    public int bestBase(int v, int what) {
        if (!now.holds(v)) {
            return refuse(NOBODY);
        }
        if (what < 0 || what > 1) {
            return refuse(OTHER);
        }
        int best = LACKING;
        int least = LACKING;
        for (int from = 0; from < now.came; from++) {
            if (from != v && now.holds(from)) {
                between.make(now.versions[from].letters, now.versions[v].letters);
                if (best == LACKING || between.cost() < least) {
                    best = from;
                    least = between.cost();
                }
            }
        }
        return what == 0 ? best : least;
    }

    // ---- what is reached ----

    public int reached(int what) {
        if (what < 0 || what > 2) {
            return refuse(OTHER);
        }
        if (what == 2) {
            return now.contents();
        }
        int live = now.reachedFromHeads() & now.there;
        return what == 0 ? live : now.there & ~live;
    }

    public int ancestors(int v) {
        if (!now.holds(v)) {
            return refuse(NOBODY);
        }
        return now.versions[v].reach & ~(1 << v);
    }

    public int common(int a, int b) {
        if (!now.holds(a) || !now.holds(b)) {
            return refuse(NOBODY);
        }
        int both = now.versions[a].reach & now.versions[b].reach;
        for (int v = MOST_VERSIONS - 1; v >= 0; v--) {
            if ((both >> v & 1) == 1) {
                return v;
            }
        }
        return LACKING;
    }

    public int generations(int h, int n) {
        if (!isHead(h)) {
            return refuse(NOBODY);
        }
        if (n < 0) {
            return refuse(BELOW);
        }
        if (n > MOST_GENERATIONS) {
            return refuse(ROOM);
        }
        if (!now.holds(now.tops[h])) {
            return 0;
        }
        int bits = 1 << now.tops[h];
        for (int i = 0; i < n; i++) {
            bits |= now.parentsOf(bits);
        }
        return bits;
    }

    public int twin(int v) {
        if (!now.holds(v)) {
            return refuse(NOBODY);
        }
        return now.leastTwin(v);
    }

    public int fetch(int h, int has, int what) {
        if (!isHead(h)) {
            return refuse(NOBODY);
        }
        if (has < 0) {
            return refuse(BELOW);
        }
        if (has > ALL_VERSIONS) {
            return refuse(ROOM);
        }
        if (what < 0 || what > 2) {
            return refuse(OTHER);
        }
        int top = now.tops[h];
        if (!now.holds(top)) {
            return 0;
        }
        int had = now.reachedFrom(has);
        int sent = now.versions[top].reach & now.there & ~had;
        if (what == 0) {
            return sent;
        }
        int known = (sent | had) & now.there;
        return what == 1 ? now.costOfSending(sent, known) : Integer.bitCount(now.sentWhole(sent, known));
    }

    // ---- damage and odds ----

    public int wrong() {
        int bits = 0;
        for (int v = 0; v < now.came; v++) {
            if (now.holds(v) && !now.versions[v].isSound()) {
                bits |= 1 << v;
            }
        }
        return bits;
    }

    public int hurt(int v) {
        if (!now.holds(v)) {
            return refuse(NOBODY);
        }
        int bits = 0;
        for (int other = 0; other < now.came; other++) {
            if (now.holds(other) && (now.neededBy(other) >> v & 1) == 1) {
                bits |= 1 << other;
            }
        }
        return bits;
    }

    public long lost(int h, int t, int part) {
        if (!isHead(h)) {
            return refuseLong(NOBODY);
        }
        if (now.tops[h] == NONE) {
            return refuseLong(STATE);
        }
        if (t < LEAST_ODDS) {
            return refuseLong(BELOW);
        }
        if (t > MOST_ODDS) {
            return refuseLong(ROOM);
        }
        if (part < 0 || part > 1) {
            return refuseLong(OTHER);
        }
        // t - 1 and t share no divisor, so their powers are in least terms already
        long factor = part == 0 ? t - 1 : t;
        int needed = Integer.bitCount(now.neededBy(now.tops[h]) & MAY_BE_LOST);
        long power = 1;
        for (int i = 0; i < needed; i++) {
            power *= factor;
        }
        return power;
    }

    public long mean(int part) {
        if (part < 0 || part > 1) {
            return refuseLong(OTHER);
        }
        int cost = now.costOfAll();
        int many = Integer.bitCount(now.there);
        int divisor = greatestDivisor(cost, many);
        if (divisor == 0) {
            return part;
        }
        return part == 0 ? cost / divisor : many / divisor;
    }

    // ---- the row ----

    public int whatIs(int what) {
        if (what < 0 || what > 1) {
            return refuse(OTHER);
        }
        int choices = what == 0 ? KINDS : MOST_FIGURE + 1;
        int bits = 0;
        plan.learn(now);
        for (int i = 0; i < choices; i++) {
            if (what == 0) {
                plan.make(i, now.figure, now.bound);
            } else {
                plan.make(now.kind, i, now.bound);
            }
            if (plan.isTold(numbers)) {
                bits |= 1 << i;
            }
        }
        return bits;
    }

    public int row(int v) {
        if (v < 0) {
            return refuse(BELOW);
        }
        if (v > GREATEST_IN_ROW || numbers.isFull()) {
            return refuse(ROOM);
        }
        numbers.add(v);
        return numbers.size;
    }

    public int judge(int v) {
        if (!now.holds(v)) {
            return refuse(NOBODY);
        }
        Numbers letters = now.versions[v].letters;
        int alike = numbers.alikeFrom(0, letters, 0);
        boolean isAll = alike == numbers.size && alike == letters.size;
        numbers.empty();
        return isAll ? LACKING : alike;
    }

    public int clear() {
        int before = numbers.size;
        numbers.empty();
        return before;
    }

    // ---- lots, image, counts ----

    public int lots(int n, int z, int what) {
        if (n < 1) {
            return refuse(BELOW);
        }
        if (n > MOST_LOTS) {
            return refuse(ROOM);
        }
        if (what < 0 || what > 1) {
            return refuse(OTHER);
        }
        draws.seed = z;
        int sum = 0;
        for (int i = 0; i < n; i++) {
            drawLot();
            sum += what == 0 ? plan.cost : plan.wholes;
        }
        return sum;
    }

    public int image() {
        taken.copyFrom(now);
        isTaken = true;
        return Integer.bitCount(now.there);
    }

    public int on() {
        if (!isTaken) {
            return refuse(STATE);
        }
        now.copyFrom(taken);
        return Integer.bitCount(now.there);
    }

    public int count(int what) {
        switch (what) {
            case 0: return now.came;
            case 1: return now.there;
            case 2: return now.costOfAll();
            case 3: return now.greatestDepth();
            case 4: return now.wholes();
            case 5: return now.bound;
            case 6: return numbers.size;
            case 7: return told.signs.size;
            default: return what >= 11 && what <= 16 ? refusals[what - 10] : LACKING;
        }
    }

    // ---- helpers of the face ----

    private int refuse(int why) {
        if (why < 0 && why > -refusals.length) {
            refusals[-why]++;
        }
        return why;
    }

    private long refuseLong(int why) {
        return REFUSED_LONG - refuse(why);
    }

    private static int orLacking(int version) {
        return version == NONE ? LACKING : version;
    }

    private static boolean isHead(int h) {
        return h >= 0 && h < MOST_HEADS;
    }

    private static int greatestDivisor(int a, int b) {
        int high = a;
        int low = b;
        for (int i = 0; i < 64 && low != 0; i++) {
            int rest = high % low;
            high = low;
            low = rest;
        }
        return high;
    }

    private void drawLot() {
        trial.copyFrom(now);
        for (int i = 0; i < EDITS_OF_A_LOT && trial.hasRoom(); i++) {
            if (trial.there == 0) {
                trial.comesAlone();
            } else {
                int v = trial.heldAt(draws.below(Integer.bitCount(trial.there)));
                int place = draws.below(trial.lettersOf(v));
                trial.comesEdited(v, place, draws.below(KINDS_OF_LETTERS));
            }
        }
        plan.learn(trial);
        plan.make(trial.kind, trial.figure, trial.bound);
    }

    /** Has room from the start and tests every place, so that no index goes wrong. */
    private static final class Numbers {
        final int[] items;
        int size;

        Numbers(int most) {
            items = new int[Math.max(0, most)];
            size = 0;
        }

        boolean isFull() {
            return size >= items.length;
        }

        void add(int number) {
            if (size >= 0 && size < items.length) {
                items[size] = number;
                size++;
            }
        }

        int at(int i) {
            return i >= 0 && i < size && i < items.length ? items[i] : NONE;
        }

        void put(int i, int number) {
            if (i >= 0 && i < size && i < items.length) {
                items[i] = number;
            }
        }

        void empty() {
            size = 0;
        }

        void copyFrom(Numbers other) {
            size = Math.min(other.size, items.length);
            System.arraycopy(other.items, 0, items, 0, size);
        }

        int alikeFrom(int place, Numbers other, int otherPlace) {
            if (place < 0 || otherPlace < 0) {
                return 0;
            }
            int alike = 0;
            while (place + alike < size && otherPlace + alike < other.size
                    && items[place + alike] == other.items[otherPlace + alike]) {
                alike++;
            }
            return alike;
        }

        boolean isSameAs(Numbers other) {
            return size == other.size && alikeFrom(0, other, 0) == size;
        }

        int hashed() {
            int hash = 7;
            for (int i = 0; i < size; i++) {
                hash = (31 * hash + items[i]) % 9973;
            }
            return hash;
        }
    }

    /** Can be made anew at every call: its steps stand in rows that stay. */
    private static final class Delta {
        final int[] copied;
        final int[] source;
        int size;
        int copies;

        Delta() {
            copied = new int[MOST_LETTERS];
            source = new int[MOST_LETTERS];
            size = 0;
            copies = 0;
        }

        void make(Numbers from, Numbers to) {
            size = 0;
            copies = 0;
            for (int place = 0; place < to.size; place += Math.max(1, addStep(from, to, place))) {
                if (size >= copied.length) {
                    return;
                }
            }
        }

        private int addStep(Numbers from, Numbers to, int place) {
            int longest = 0;
            int where = 0;
            for (int i = 0; i + longest < from.size; i++) {
                int alike = from.alikeFrom(i, to, place);
                if (alike > longest) {
                    longest = alike;
                    where = i;
                }
            }
            if (longest >= 2) {
                put(longest, where);
                copies++;
                return longest;
            }
            put(0, to.at(place));
            return 1;
        }

        private void put(int letters, int where) {
            if (size >= 0 && size < copied.length && size < source.length) {
                copied[size] = letters;
                source[size] = where;
                size++;
            }
        }

        int cost() {
            return 1 + size + copies;
        }

        void spell(Numbers from, Numbers to) {
            to.empty();
            for (int i = 0; i < size && i < copied.length && i < source.length; i++) {
                if (copied[i] == 0) {
                    to.add(source[i]);
                }
                for (int j = 0; j < copied[i]; j++) {
                    to.add(from.at(source[i] + j));
                }
            }
        }

        void copyFrom(Delta other) {
            System.arraycopy(other.copied, 0, copied, 0, MOST_LETTERS);
            System.arraycopy(other.source, 0, source, 0, MOST_LETTERS);
            size = other.size;
            copies = other.copies;
        }
    }

    /** Keeps its letters restored, so that damage alone has to spell anew; of a whole one they are what is stored. */
    private static final class Version {
        final Numbers letters;
        final Delta steps;
        int first;
        int second;
        int reach;
        int hash;
        int base;

        Version() {
            letters = new Numbers(MOST_LETTERS);
            steps = new Delta();
            first = NONE;
            second = NONE;
            reach = 0;
            hash = 0;
            base = NONE;
        }

        boolean isWhole() {
            return base == NONE;
        }

        int wholeCost() {
            return 1 + letters.size;
        }

        int cost() {
            return isWhole() ? wholeCost() : steps.cost();
        }

        boolean isSound() {
            return letters.hashed() == hash;
        }

        /** Its letters are restored already, so that to be whole it needs no more than to have no base. */
        void leave(int gone) {
            if (!isWhole() && (gone >> base & 1) == 1) {
                base = NONE;
            }
        }

        void copyFrom(Version other) {
            letters.copyFrom(other.letters);
            steps.copyFrom(other.steps);
            first = other.first;
            second = other.second;
            reach = other.reach;
            hash = other.hash;
            base = other.base;
        }
    }

    /** Has in it all that an image keeps and a fault takes back, so that one copy does it. */
    private static final class Store {
        final Version[] versions;
        final int[] tops;
        final Numbers draft;
        int came;
        int there;
        int kind;
        int figure;
        int bound;

        Store() {
            versions = new Version[MOST_VERSIONS];
            for (int v = 0; v < MOST_VERSIONS; v++) {
                versions[v] = new Version();
            }
            tops = new int[MOST_HEADS];
            for (int h = 0; h < MOST_HEADS; h++) {
                tops[h] = NONE;
            }
            draft = new Numbers(MOST_LETTERS);
            came = 0;
            there = 0;
            kind = PLAIN;
            figure = 0;
            bound = FIRST_BOUND;
        }

        void copyFrom(Store other) {
            for (int v = 0; v < other.came && v < MOST_VERSIONS; v++) {
                versions[v].copyFrom(other.versions[v]);
            }
            System.arraycopy(other.tops, 0, tops, 0, MOST_HEADS);
            came = other.came;
            there = other.there;
            kind = other.kind;
            figure = other.figure;
            bound = other.bound;
        }

        boolean holds(int v) {
            return v >= 0 && v < came && v < MOST_VERSIONS && (there >> v & 1) == 1;
        }

        boolean hasRoom() {
            return came < MOST_VERSIONS;
        }

        int lettersOf(int v) {
            return holds(v) ? versions[v].letters.size : 0;
        }

        boolean hasParent(int v, int other) {
            return holds(v) && (versions[v].first == other || versions[v].second == other);
        }

        int heldAt(int place) {
            int ahead = 0;
            for (int v = 0; v < came; v++) {
                if (holds(v)) {
                    if (ahead == place) {
                        return v;
                    }
                    ahead++;
                }
            }
            return 0;
        }

        int comes(int first, int second, Numbers spelling) {
            if (came < 0 || came >= MOST_VERSIONS) {
                return NONE;
            }
            Version fresh = versions[came];
            fresh.letters.copyFrom(spelling);
            fresh.hash = spelling.hashed();
            fresh.first = first;
            fresh.second = second;
            fresh.reach = 1 << came | reachOf(first) | reachOf(second);
            fresh.base = NONE;
            there |= 1 << came;
            came++;
            return came - 1;
        }

        int comesAlone() {
            draft.empty();
            draft.add(0);
            return comes(NONE, NONE, draft);
        }

        int comesEdited(int v, int place, int letter) {
            if (!holds(v)) {
                return NONE;
            }
            Numbers old = versions[v].letters;
            draft.empty();
            for (int i = 0; i < old.size; i++) {
                if (i != place) {
                    draft.add(old.at(i));
                } else if (letter != LEFT_OUT) {
                    draft.add(letter);
                }
            }
            if (place == old.size) {
                draft.add(letter);
            }
            return comes(v, NONE, draft);
        }

        void damageAt(int v, int place, int letter) {
            if (!holds(v)) {
                return;
            }
            versions[v].letters.put(place, letter);
            // a base is restored ahead of what is stored by it
            for (int depth = 1; depth < MOST_VERSIONS; depth++) {
                for (int other = 0; other < came; other++) {
                    if (holds(other) && depthOf(other) == depth) {
                        restore(versions[other]);
                    }
                }
            }
        }

        private void restore(Version one) {
            if (holds(one.base)) {
                one.steps.spell(versions[one.base].letters, one.letters);
            }
        }

        void storeBy(Plan plan) {
            for (int v = 0; v < came; v++) {
                if (holds(v)) {
                    Version one = versions[v];
                    one.base = plan.baseOf(v);
                    if (holds(one.base)) {
                        one.steps.make(versions[one.base].letters, one.letters);
                    }
                }
            }
        }

        int dropGarbage() {
            int live = reachedFromHeads() & there;
            int gone = there & ~live;
            for (int v = 0; v < came; v++) {
                if (holds(v) && (live >> v & 1) == 1) {
                    versions[v].leave(gone);
                }
            }
            there = live;
            return Integer.bitCount(gone);
        }

        private int reachOf(int v) {
            return v >= 0 && v < came && v < MOST_VERSIONS ? versions[v].reach : 0;
        }

        int reachedFrom(int bits) {
            int all = 0;
            for (int v = 0; v < came; v++) {
                if ((bits >> v & 1) == 1) {
                    all |= reachOf(v);
                }
            }
            return all;
        }

        int reachedFromHeads() {
            int all = 0;
            for (int h = 0; h < MOST_HEADS; h++) {
                all |= reachOf(tops[h]);
            }
            return all;
        }

        int parentsOf(int bits) {
            int all = 0;
            for (int v = 0; v < came && v < MOST_VERSIONS; v++) {
                if ((bits >> v & 1) == 1) {
                    all |= bitOf(versions[v].first) | bitOf(versions[v].second);
                }
            }
            return all;
        }

        private static int bitOf(int v) {
            return v == NONE ? 0 : 1 << v;
        }

        int neededBy(int v) {
            int bits = 0;
            int link = v;
            for (int i = 0; i < MOST_VERSIONS && holds(link); i++) {
                bits |= 1 << link;
                link = versions[link].base;
            }
            return bits;
        }

        int depthOf(int v) {
            return Integer.bitCount(neededBy(v)) - 1;
        }

        int greatestDepth() {
            int greatest = 0;
            for (int v = 0; v < came; v++) {
                if (holds(v)) {
                    greatest = Math.max(greatest, depthOf(v));
                }
            }
            return greatest;
        }

        int costOfAll() {
            int sum = 0;
            for (int v = 0; v < came; v++) {
                if (holds(v)) {
                    sum += versions[v].cost();
                }
            }
            return sum;
        }

        int wholes() {
            int bits = 0;
            for (int v = 0; v < came; v++) {
                if (holds(v) && versions[v].isWhole()) {
                    bits |= 1 << v;
                }
            }
            return bits;
        }

        int leastTwin(int v) {
            for (int other = 0; other < v; other++) {
                if (holds(other) && versions[other].letters.isSameAs(versions[v].letters)) {
                    return other;
                }
            }
            return v;
        }

        int contents() {
            int different = 0;
            for (int v = 0; v < came; v++) {
                if (holds(v) && leastTwin(v) == v) {
                    different++;
                }
            }
            return different;
        }

        int sentWhole(int sent, int known) {
            int bits = 0;
            for (int v = 0; v < came; v++) {
                if ((sent >> v & 1) == 1 && holds(v)) {
                    int base = versions[v].base;
                    if (base != NONE && (known >> base & 1) == 0) {
                        bits |= 1 << v;
                    }
                }
            }
            return bits;
        }

        int costOfSending(int sent, int known) {
            int whole = sentWhole(sent, known);
            int sum = 0;
            for (int v = 0; v < came; v++) {
                if ((sent >> v & 1) == 1 && holds(v)) {
                    sum += (whole >> v & 1) == 1 ? versions[v].wholeCost() : versions[v].cost();
                }
            }
            return sum;
        }
    }

    /** Leaves the store as it is, so that a repack can be asked for without being done. */
    private static final class Plan {
        final int[] order;
        final int[] bases;
        final int[] depths;
        final int[] costs;
        final Delta delta;
        Store store;
        int placed;
        int kind;
        int figure;
        int bound;
        int cost;
        int greatestDepth;
        int wholes;

        Plan() {
            order = new int[MOST_VERSIONS];
            bases = new int[MOST_VERSIONS];
            depths = new int[MOST_VERSIONS];
            costs = new int[MOST_VERSIONS * MOST_VERSIONS];
            delta = new Delta();
            store = null;
        }

        /** What a delta costs is the same for every repacker, so it is kept from plan to plan. */
        void learn(Store of) {
            store = of;
            for (int i = 0; i < costs.length; i++) {
                costs[i] = 0;
            }
        }

        void make(int byKind, int byFigure, int byBound) {
            kind = byKind;
            figure = byFigure;
            bound = byBound;
            placed = 0;
            cost = 0;
            greatestDepth = 0;
            wholes = 0;
            for (int v = 0; v < MOST_VERSIONS; v++) {
                bases[v] = TOLD_NOT_THERE;
            }
            if (store != null) {
                lineUp();
                for (int i = 0; i < placed && i < MOST_VERSIONS; i++) {
                    choose(i, order[i]);
                }
            }
        }

        private void lineUp() {
            for (int v = 0; v < store.came && placed < MOST_VERSIONS; v++) {
                if (store.holds(v)) {
                    int i = placed;
                    while (i > 0 && isAhead(v, order[i - 1])) {
                        order[i] = order[i - 1];
                        i--;
                    }
                    order[i] = v;
                    placed++;
                }
            }
        }

        /** The lesser number was lined up first, so of alike ones it stays ahead. */
        private boolean isAhead(int v, int lesser) {
            switch (kind) {
                case NEWEST:
                case KIN:
                    return true;
                case LONGEST:
                case THRIFT:
                case WINDOW:
                    return store.lettersOf(v) > store.lettersOf(lesser);
                default:
                    return false;
            }
        }

        private void choose(int i, int v) {
            if (!store.holds(v)) {
                return;
            }
            int base = NONE;
            int least = GREATEST_INT;
            for (int j = 0; j < i && j < MOST_VERSIONS; j++) {
                int from = order[j];
                if (store.holds(from) && depths[from] < bound && mayBeBase(from, v, i - j)) {
                    int at = from * MOST_VERSIONS + v;
                    if (costs[at] == 0) {
                        delta.make(store.versions[from].letters, store.versions[v].letters);
                        costs[at] = delta.cost();
                    }
                    if (costs[at] < least) {
                        least = costs[at];
                        base = from;
                    }
                }
            }
            int whole = store.versions[v].wholeCost();
            if (store.holds(base) && least <= whole - savings()) {
                settle(v, base, depths[base] + 1, least);
            } else {
                settle(v, TOLD_WHOLE, 0, whole);
                wholes++;
            }
        }

        private boolean mayBeBase(int from, int v, int placesAhead) {
            switch (kind) {
                case KIN:
                    return store.hasParent(v, from) || store.hasParent(from, v);
                case WINDOW:
                    return placesAhead <= figure;
                default:
                    return true;
            }
        }

        private int savings() {
            return kind == THRIFT ? figure + 1 : 1;
        }

        private void settle(int v, int base, int depth, int its) {
            bases[v] = base;
            depths[v] = depth;
            cost += its;
            greatestDepth = Math.max(greatestDepth, depth);
        }

        int baseOf(int v) {
            return v >= 0 && v < MOST_VERSIONS && bases[v] < MOST_VERSIONS ? bases[v] : NONE;
        }

        boolean isTold(Numbers told) {
            for (int v = 0; v < told.size; v++) {
                int base = v < MOST_VERSIONS ? bases[v] : TOLD_NOT_THERE;
                if (told.at(v) != base) {
                    return false;
                }
            }
            return true;
        }
    }

    /** Looks at the form of all letters first: a fault of form is told ahead of any other. */
    private static final class Told {
        final Numbers signs;
        final Numbers spelling;

        Told() {
            signs = new Numbers(MOST_TOLD);
            spelling = new Numbers(MOST_LETTERS);
        }

        int placeOfFault() {
            int start = 0;
            for (int i = 0; i <= signs.size; i++) {
                int fault = faultIn(start);
                if (fault != NONE) {
                    return fault;
                }
                start = placeBehind(start);
                if (start >= signs.size) {
                    return NONE;
                }
            }
            return NONE;
        }

        int placeBehind(int start) {
            int at = start;
            while (at < signs.size && signs.at(at) != ';') {
                at++;
            }
            return at + 1;
        }

        private int faultIn(int start) {
            String form = formOf(signs.at(start));
            int at = start + 1;
            for (int i = 0; i < form.length(); i++) {
                int many = fitting(form.charAt(i), at);
                if (many == 0) {
                    return at;
                }
                at += many;
            }
            return form.isEmpty() ? start : NONE;
        }

        /** What must follow a first sign: d a digit, p a digit or a point, l a letter, s 1 .. 12 of these. */
        private static String formOf(int sign) {
            switch (sign) {
                case 'v': return "pps;";
                case 'h': return "dp;";
                case 'k': return "dd;";
                case 'd': return "d;";
                case 'r': return ";";
                case 'c': return ";";
                case 'x': return "dddl;";
                default: return "";
            }
        }

        private int fitting(char wanted, int at) {
            int sign = signs.at(at);
            switch (wanted) {
                case 'd': return isDigit(sign) ? 1 : 0;
                case 'p': return isDigit(sign) || sign == '.' ? 1 : 0;
                case 'l': return isLetter(sign) ? 1 : 0;
                case 's': return lettersFrom(at);
                default: return sign == wanted ? 1 : 0;
            }
        }

        private int lettersFrom(int at) {
            int many = 0;
            while (many < MOST_LETTERS && isLetter(signs.at(at + many))) {
                many++;
            }
            return many;
        }

        private static boolean isDigit(int sign) {
            return sign >= '0' && sign <= '9';
        }

        private static boolean isLetter(int sign) {
            return sign >= 'a' && sign <= 'h';
        }

        private int digitAt(int at) {
            int sign = signs.at(at);
            return isDigit(sign) ? sign - '0' : NONE;
        }

        boolean runsAt(int at, Store store, Plan plan) {
            int one = digitAt(at + 1);
            int two = digitAt(at + 2);
            switch (signs.at(at)) {
                case 'v':
                    return comes(at + 3, store, one, two);
                case 'h':
                    return points(store, one, two);
                case 'k':
                    return becomes(store, one, two);
                case 'd':
                    return binds(store, one);
                case 'r':
                    plan.learn(store);
                    plan.make(store.kind, store.figure, store.bound);
                    store.storeBy(plan);
                    return true;
                case 'c':
                    store.dropGarbage();
                    return true;
                case 'x':
                    return breaks(at + 4, store, one, 10 * two + digitAt(at + 3));
                default:
                    return false;
            }
        }

        private boolean comes(int at, Store store, int first, int second) {
            boolean isFirst = first == NONE || store.holds(first);
            boolean isSecond = second == NONE || first != NONE && first != second && store.holds(second);
            if (!isFirst || !isSecond || !store.hasRoom()) {
                return false;
            }
            int many = lettersFrom(at);
            spelling.empty();
            for (int i = 0; i < many; i++) {
                spelling.add(signs.at(at + i) - 'a');
            }
            store.comes(first, second, spelling);
            return true;
        }

        private boolean points(Store store, int head, int v) {
            if (!isHead(head) || v != NONE && !store.holds(v)) {
                return false;
            }
            store.tops[head] = v;
            return true;
        }

        private boolean becomes(Store store, int kind, int figure) {
            if (kind < 0 || kind >= KINDS) {
                return false;
            }
            store.kind = kind;
            store.figure = figure;
            return true;
        }

        private boolean binds(Store store, int bound) {
            if (bound < 0 || bound > MOST_BOUND) {
                return false;
            }
            store.bound = bound;
            return true;
        }

        private boolean breaks(int at, Store store, int v, int place) {
            if (!store.holds(v) || !store.versions[v].isWhole()) {
                return false;
            }
            if (place < 0 || place >= store.versions[v].letters.size) {
                return false;
            }
            store.damageAt(v, place, signs.at(at) - 'a');
            return true;
        }
    }

    /** Keeps the seed, for the draws go on from one archive of a lot to the next. */
    private static final class Draws {
        int seed;

        Draws() {
            seed = 0;
        }

        int below(int m) {
            seed = seed * 1664525 + 1013904223;
            return m > 0 ? (seed & GREATEST_INT) / 256 % m : 0;
        }
    }
}
