import java.util.ArrayDeque;
import java.util.ArrayList;
import java.util.Arrays;
import java.util.Deque;
import java.util.HashMap;
import java.util.List;
import java.util.Map;

/** The document told a second time, as plainly as the Java library lets one: what OnePane is held against. */
final class Oracle {
    static final int NONE = -1;
    static final long NOTHING = -1000000000000000L;
    static final List<String> OWN = Arrays.asList("pane", "by", "tough", "heavy", "pole", "at", "lifts", "adds", "holds",
        "fades", "stone", "hail", "hour", "cracks", "weight", "tired", "near", "number", "column", "row", "far", "or",
        "and", "not", "all", "min", "max");

    @SuppressWarnings("serial")
    static final class Fault extends RuntimeException {
        final int kind;
        final int at;

        Fault(int kind, int at) {
            this.kind = kind;
            this.at = at;
        }
    }

    interface Num {
        int of(Map<String, Integer> view);
    }

    interface Yes {
        boolean of(Map<String, Integer> view);
    }

    static final class Person {
        String name;
        int column;
        int row;
        int strong;
        int tired;
        boolean rests;

        Person copy() {
            Person p = new Person();
            p.name = name;
            p.column = column;
            p.row = row;
            p.strong = strong;
            p.tired = tired;
            p.rests = rests;
            return p;
        }
    }

    static final class Spec {
        int columns;
        int rows;
        int tough;
        int fades = 3;
        int stone = 20;
        int hail = 0;
        int[][] weight = new int[6][6];
        Num adds;
        Yes holds;
        List<Person> people = new ArrayList<>();
        int statements = 0;
    }

    static final class World {
        int hour = 0;
        boolean[][] cracked = new boolean[6][6];
        List<Person> people = new ArrayList<>();
        List<int[]> kept = new ArrayList<>();

        World copy() {
            World w = new World();
            w.hour = hour;
            for (int c = 0; c < 6; c++) {
                w.cracked[c] = cracked[c].clone();
            }
            for (Person p : people) {
                w.people.add(p.copy());
            }
            w.kept.addAll(kept);
            return w;
        }

        int count() {
            int n = 0;
            for (boolean[] column : cracked) {
                for (boolean b : column) {
                    n += b ? 1 : 0;
                }
            }
            return n;
        }
    }

    // ---- texts

    static final class Text {
        final String s;
        final boolean asks;
        boolean inAdds;
        int at = 0;

        Text(String s, boolean asks) {
            this.s = s;
            this.asks = asks;
        }

        static boolean letter(int c) {
            return c >= 'a' && c <= 'z';
        }

        static boolean digit(int c) {
            return c >= '0' && c <= '9';
        }

        int byteAt(int i) {
            return i >= 0 && i < s.length() ? s.charAt(i) : -1;
        }

        void blanks() {
            while (byteAt(at) == 10 || byteAt(at) == 32) {
                at++;
            }
        }

        boolean ended() {
            blanks();
            return at == s.length();
        }

        Fault no() {
            return new Fault(1, at);
        }

        /** The word ahead, or "" if none may stand here. */
        String word() {
            blanks();
            if (digit(byteAt(at - 1))) {
                return "";
            }
            int i = at;
            while (letter(byteAt(i))) {
                i++;
            }
            return s.substring(at, i);
        }

        boolean takes(String word) {
            if (word().equals(word)) {
                at += word.length();
                return true;
            }
            return false;
        }

        void must(String word) {
            if (!takes(word)) {
                throw no();
            }
        }

        boolean sign(char c) {
            blanks();
            if (byteAt(at) == c) {
                at++;
                return true;
            }
            return false;
        }

        void mustSign(char c) {
            if (!sign(c)) {
                throw no();
            }
        }

        int number(int low, int high) {
            blanks();
            if (!digit(byteAt(at)) || letter(byteAt(at - 1))) {
                throw no();
            }
            int i = at;
            while (digit(byteAt(i))) {
                if (i - at == 4) {
                    throw new Fault(1, i);
                }
                i++;
            }
            int value = Integer.parseInt(s.substring(at, i));
            if (value < low || value > high) {
                throw new Fault(2, at);
            }
            at = i;
            return value;
        }

        void deeper(int open) {
            if (open == 6) {
                throw new Fault(4, at);
            }
        }

        Yes test(int open) {
            Yes a = both(open);
            while (takes("or")) {
                Yes left = a;
                Yes right = both(open);
                a = v -> left.of(v) || right.of(v);
            }
            return a;
        }

        Yes both(int open) {
            Yes a = fact(open);
            while (takes("and")) {
                Yes left = a;
                Yes right = fact(open);
                a = v -> left.of(v) && right.of(v);
            }
            return a;
        }

        Yes fact(int open) {
            if (word().equals("not")) {
                deeper(open);
                must("not");
                Yes inner = fact(open + 1);
                return v -> !inner.of(v);
            }
            if (takes("all")) {
                return v -> true;
            }
            blanks();
            if (byteAt(at) == '[') {
                deeper(open);
                mustSign('[');
                Yes inner = test(open + 1);
                mustSign(']');
                return inner;
            }
            Num left = sum(open);
            char kind = sign('<') ? '<' : sign('>') ? '>' : sign('=') ? '=' : '?';
            if (kind == '?') {
                throw no();
            }
            Num right = sum(open);
            return v -> kind == '<' ? left.of(v) < right.of(v) : kind == '>' ? left.of(v) > right.of(v) : left.of(v) == right.of(v);
        }

        static int bound(long value) {
            return (int) Math.max(-1000000L, Math.min(1000000L, value));
        }

        Num sum(int open) {
            Num a = product(open);
            while (true) {
                Num left = a;
                if (sign('+')) {
                    Num right = product(open);
                    a = v -> bound((long) left.of(v) + right.of(v));
                } else if (sign('-')) {
                    Num right = product(open);
                    a = v -> bound((long) left.of(v) - right.of(v));
                } else {
                    return a;
                }
            }
        }

        Num product(int open) {
            Num a = part(open);
            while (true) {
                Num left = a;
                if (sign('*')) {
                    Num right = part(open);
                    a = v -> bound((long) left.of(v) * right.of(v));
                } else if (sign('/')) {
                    Num right = part(open);
                    a = v -> right.of(v) == 0 ? 0 : (int) Math.floor((double) left.of(v) / right.of(v));
                } else {
                    return a;
                }
            }
        }

        List<String> values() {
            if (asks) {
                return Arrays.asList("number", "column", "row", "lifts", "tired", "near", "holds", "hour", "cracks");
            }
            return inAdds ? Arrays.asList("hour", "cracks", "weight") : Arrays.asList("hour", "cracks", "lifts", "tired", "near");
        }

        Num part(int open) {
            blanks();
            if (digit(byteAt(at))) {
                int n = number(0, 9999);
                return v -> n;
            }
            if (byteAt(at) == '(') {
                deeper(open);
                mustSign('(');
                Num inner = sum(open + 1);
                mustSign(')');
                return inner;
            }
            String word = word();
            if (word.equals("min") || word.equals("max")) {
                must(word);
                blanks();
                if (byteAt(at) != '(') {
                    throw no();
                }
                deeper(open);
                mustSign('(');
                Num left = sum(open + 1);
                mustSign(',');
                Num right = sum(open + 1);
                mustSign(')');
                return v -> word.equals("min") ? Math.min(left.of(v), right.of(v)) : Math.max(left.of(v), right.of(v));
            }
            if (asks && word.equals("far")) {
                deeper(open);
                must("far");
                Num whom = part(open + 1);
                return v -> v.getOrDefault("far" + whom.of(v), 0);
            }
            if (values().contains(word)) {
                must(word);
                return v -> v.get(word);
            }
            throw no();
        }

        Spec pane() {
            Spec p = new Spec();
            for (int[] column : p.weight) {
                Arrays.fill(column, 1);
            }
            while (!ended()) {
                if (p.statements == 80) {
                    throw new Fault(5, at);
                }
                if (p.statements == 0) {
                    must("pane");
                    p.columns = number(2, 6);
                    must("by");
                    p.rows = number(2, 6);
                    must("tough");
                    p.tough = number(0, 99);
                } else {
                    statement(p);
                }
                mustSign(';');
                p.statements++;
            }
            if (p.statements == 0) {
                throw no();
            }
            if (p.adds == null) {
                p.adds = v -> v.get("weight");
            }
            if (p.holds == null) {
                p.holds = v -> true;
            }
            return p;
        }

        void statement(Spec p) {
            int begin = at;
            if (takes("heavy")) {
                int c = number(0, p.columns - 1);
                int r = number(0, p.rows - 1);
                p.weight[c][r] = number(0, 99);
            } else if (takes("pole")) {
                if (p.people.size() == 10) {
                    throw new Fault(5, begin);
                }
                pole(p);
            } else if (takes("adds")) {
                if (p.adds != null) {
                    throw new Fault(5, begin);
                }
                inAdds = true;
                p.adds = sum(0);
            } else if (takes("holds")) {
                if (p.holds != null) {
                    throw new Fault(5, begin);
                }
                inAdds = false;
                p.holds = test(0);
            } else if (takes("fades")) {
                p.fades = number(0, 99);
            } else if (takes("stone")) {
                p.stone = number(0, 99);
            } else if (takes("hail")) {
                p.hail = number(0, 100);
            } else {
                throw no();
            }
        }

        void pole(Spec p) {
            Person one = new Person();
            one.name = word();
            if (one.name.length() > 6) {
                throw new Fault(1, at + 6);
            }
            if (one.name.isEmpty() || OWN.contains(one.name)) {
                throw no();
            }
            for (Person other : p.people) {
                if (other.name.equals(one.name)) {
                    throw new Fault(3, at);
                }
            }
            must(one.name);
            must("at");
            one.column = number(0, p.columns - 1);
            blanks();
            int rowAt = at;
            one.row = number(0, p.rows - 1);
            for (Person other : p.people) {
                if (other.column == one.column && other.row == one.row) {
                    throw new Fault(2, rowAt);
                }
            }
            must("lifts");
            one.strong = number(0, 99);
            p.people.add(one);
        }
    }

    // ---- state

    String tape = "";
    Spec spec = null;
    World world = new World();
    Deque<World> past = new ArrayDeque<>();
    List<int[]> sounds = new ArrayList<>();
    int[] latestImage = {};
    long seed = 1;
    int faultKind = 0;
    int faultAt = NONE;
    final int[] refused = new int[6];

    private int refuse(int kind) {
        refused[kind]++;
        return NONE;
    }

    private boolean deny(int kind) {
        refused[kind]++;
        return false;
    }

    private String takeTape() {
        String t = tape;
        tape = "";
        return t;
    }

    int feed(int... numbers) {
        if (tape.length() + 20 > 1600) {
            return refuse(0);
        }
        StringBuilder b = new StringBuilder(tape);
        for (int n : numbers) {
            for (int i = 3; i >= 0; i--) {
                b.append((char) (n >>> 8 * i & 255));
            }
        }
        tape = b.toString();
        return tape.length();
    }

    boolean end(int n) {
        if (n < 0 || n > tape.length()) {
            return deny(0);
        }
        tape = tape.substring(0, n);
        return true;
    }

    int pane() {
        try {
            spec = new Text(takeTape(), false).pane();
        } catch (Fault f) {
            faultKind = f.kind;
            faultAt = f.at;
            return refuse(1);
        }
        faultKind = 0;
        faultAt = NONE;
        world = new World();
        for (Person p : spec.people) {
            world.people.add(p.copy());
        }
        past.clear();
        sounds.clear();
        return spec.statements;
    }

    int fault(int what) {
        return what == 0 ? faultKind : what == 1 ? faultAt : NONE;
    }

    int has(int what) {
        int[] all = {spec == null ? 0 : spec.columns, spec == null ? 0 : spec.rows, world.people.size(), world.hour,
            world.count(), Integer.bitCount(holding(world, 0)), 0, Math.min(40, world.kept.size()), sounds.size(), past.size()};
        for (Person p : world.people) {
            all[6] += p.rests ? 1 : 0;
        }
        return what < 0 || what > 9 ? NONE : all[what];
    }

    boolean noPerson(int p) {
        return p < 0 || p >= world.people.size();
    }

    boolean noCell(int c, int r) {
        return spec == null || c < 0 || r < 0 || c >= spec.columns || r >= spec.rows;
    }

    int letter(int p, int k) {
        if (noPerson(p) || k < 0 || k > 5) {
            return NONE;
        }
        String name = world.people.get(p).name;
        return k < name.length() ? name.charAt(k) - 'a' + 1 : 0;
    }

    int standing(World w, int c, int r) {
        for (int p = 0; p < w.people.size(); p++) {
            if (w.people.get(p).column == c && w.people.get(p).row == r) {
                return p;
            }
        }
        return NONE;
    }

    int cell(int c, int r, int what) {
        if (noCell(c, r)) {
            return NONE;
        }
        switch (what) {
            case 0: return spec.weight[c][r];
            case 1: return world.cracked[c][r] ? 1 : 0;
            case 2: return load(world, c, r);
            case 3: return standing(world, c, r);
            default: return NONE;
        }
    }

    long slack(int c, int r) {
        return noCell(c, r) ? NOTHING : slack(world, c, r, holding(world, 0), 0);
    }

    int person(int p, int what) {
        if (noPerson(p)) {
            return NONE;
        }
        Person one = world.people.get(p);
        switch (what) {
            case 0: return one.column;
            case 1: return one.row;
            case 2: return one.strong;
            case 3: return one.tired;
            case 4: return holding(world, 0) >> p & 1;
            case 5: return one.rests ? 1 : 0;
            default: return NONE;
        }
    }

    int lifts(int p, int c, int r) {
        return noPerson(p) || noCell(c, r) ? NONE : lift(world.people.get(p), c, r, 0);
    }

    int kept(int k, int what) {
        int told = Math.min(40, world.kept.size());
        if (k < 0 || k >= told || what < 0 || what > 2) {
            return NONE;
        }
        return world.kept.get(world.kept.size() - told + k)[what];
    }

    // ---- how it bears

    static int steps(int c, int r, int d, int s) {
        return Math.abs(c - d) + Math.abs(r - s);
    }

    Map<String, Integer> view(World w) {
        Map<String, Integer> v = new HashMap<>();
        v.put("hour", w.hour);
        v.put("cracks", w.count());
        return v;
    }

    Map<String, Integer> view(World w, int p, int more) {
        Map<String, Integer> v = view(w);
        Person one = w.people.get(p);
        v.put("number", p);
        v.put("column", one.column);
        v.put("row", one.row);
        v.put("lifts", one.strong + more);
        v.put("tired", one.tired);
        int near = 0;
        for (int q = 0; q < w.people.size(); q++) {
            Person other = w.people.get(q);
            int far = steps(one.column, one.row, other.column, other.row);
            v.put("far" + q, far);
            near += far == 1 ? 1 : 0;
        }
        v.put("near", near);
        return v;
    }

    int holding(World w, int more) {
        int bits = 0;
        for (int p = 0; p < w.people.size(); p++) {
            if (!w.people.get(p).rests && spec.holds.of(view(w, p, more))) {
                bits |= 1 << p;
            }
        }
        return bits;
    }

    int lift(Person one, int c, int r, int more) {
        return Math.max(0, one.strong + more - spec.fades * steps(one.column, one.row, c, r));
    }

    int load(World w, int c, int r) {
        int load = spec.weight[c][r];
        for (int d = 0; d < spec.columns; d++) {
            for (int s = 0; s < spec.rows; s++) {
                if (w.cracked[d][s] && steps(c, r, d, s) == 1) {
                    Map<String, Integer> v = view(w);
                    v.put("weight", spec.weight[d][s]);
                    load += Math.max(0, Math.min(999, spec.adds.of(v)));
                }
            }
        }
        return load;
    }

    int slack(World w, int c, int r, int set, int more) {
        int slack = spec.tough - load(w, c, r);
        for (int p = 0; p < w.people.size(); p++) {
            if ((set >> p & 1) != 0) {
                slack += lift(w.people.get(p), c, r, more);
            }
        }
        return slack;
    }

    List<int[]> cells() {
        List<int[]> all = new ArrayList<>();
        for (int r = 0; spec != null && r < spec.rows; r++) {
            for (int c = 0; c < spec.columns; c++) {
                all.add(new int[] {c, r});
            }
        }
        return all;
    }

    List<int[]> whole(World w) {
        List<int[]> all = cells();
        all.removeIf(k -> w.cracked[k[0]][k[1]]);
        return all;
    }

    List<int[]> cracking(World w, int set, int more) {
        List<int[]> all = whole(w);
        all.removeIf(k -> slack(w, k[0], k[1], set, more) >= 0);
        return all;
    }

    int hour(World w, int more, int struck) {
        int set = holding(w, more);
        List<int[]> crack = new ArrayList<>();
        List<int[]> all = cells();
        for (int i = 0; i < all.size(); i++) {
            int[] k = all.get(i);
            int slack = slack(w, k[0], k[1], set, more) - (struck == i ? spec.stone : 0);
            if (!w.cracked[k[0]][k[1]] && slack < 0) {
                crack.add(k);
            }
        }
        for (int[] k : crack) {
            w.cracked[k[0]][k[1]] = true;
            w.kept.add(new int[] {w.hour, k[0], k[1]});
        }
        for (int p = 0; p < w.people.size(); p++) {
            Person one = w.people.get(p);
            one.tired = (set >> p & 1) != 0 ? Math.min(99, one.tired + 1) : Math.max(0, one.tired - 1);
        }
        w.hour = Math.min(999, w.hour + 1);
        return crack.size();
    }

    // ---- ahead

    boolean noTime(int n, int low, int high) {
        return spec == null || n < low || n > high || world.hour + n > 999;
    }

    int later(int n, int what) {
        if (noTime(n, 0, 60) || what < 0 || what > 2) {
            return NONE;
        }
        World w = world.copy();
        for (int i = 0; i < n; i++) {
            hour(w, 0, NONE);
        }
        return what == 0 ? w.count() : what == 1 ? holding(w, 0) : w.people.stream().mapToInt(p -> p.tired).sum();
    }

    int next() {
        World w = world.copy();
        for (int i = 1; spec != null && i <= 60 && w.hour < 999; i++) {
            if (hour(w, 0, NONE) > 0) {
                return i;
            }
        }
        return NONE;
    }

    int lasts(int n) {
        for (int more = 0; !noTime(n, 1, 30) && more < 100; more++) {
            World w = world.copy();
            int count = 0;
            for (int i = 0; i < n && count == 0; i++) {
                count += hour(w, more, NONE);
            }
            if (count == 0) {
                return more;
            }
        }
        return NONE;
    }

    int free() {
        int set = holding(world, 0);
        int bits = 0;
        for (int p = 0; p < world.people.size(); p++) {
            int without = set & ~(1 << p);
            if (without != set && cracking(world, without, 0).size() == cracking(world, set, 0).size()) {
                bits |= 1 << p;
            }
        }
        return bits;
    }

    boolean awake(int set) {
        for (int p = 0; p < world.people.size(); p++) {
            if ((set >> p & 1) != 0 && world.people.get(p).rests) {
                return false;
            }
        }
        return true;
    }

    int needed() {
        for (int size = 0; spec != null && size <= 10; size++) {
            for (int set = 0; set < 1 << world.people.size(); set++) {
                if (Integer.bitCount(set) == size && awake(set) && cracking(world, set, 0).isEmpty()) {
                    return set;
                }
            }
        }
        return NONE;
    }

    int stand(int p, int what) {
        if (noPerson(p) || world.people.get(p).rests || what < 0 || what > 2) {
            return NONE;
        }
        int set = holding(world, 0) | 1 << p;
        int[] best = null;
        for (int[] k : cells()) {
            int there = standing(world, k[0], k[1]);
            if (there != NONE && there != p) {
                continue;
            }
            World w = world.copy();
            w.people.get(p).column = k[0];
            w.people.get(p).row = k[1];
            int least = whole(w).stream().mapToInt(q -> slack(w, q[0], q[1], set, 0)).min().orElse(0);
            int count = cracking(w, set, 0).size();
            if (best == null || count < best[2] || count == best[2] && least > best[3]) {
                best = new int[] {k[0], k[1], count, least};
            }
        }
        return best[what];
    }

    int weak(int what) {
        int[] best = null;
        for (int[] k : whole(world)) {
            if (best == null || slack(k[0], k[1]) < slack(best[0], best[1])) {
                best = k;
            }
        }
        return best == null || what < 0 || what > 1 ? NONE : best[what];
    }

    int mends(int n, int what) {
        int[] best = null;
        for (int[] k : cells()) {
            if (noTime(n, 1, 30) || !world.cracked[k[0]][k[1]]) {
                continue;
            }
            World w = world.copy();
            w.cracked[k[0]][k[1]] = false;
            for (int i = 0; i < n; i++) {
                hour(w, 0, NONE);
            }
            if (best == null || w.count() < best[2]) {
                best = new int[] {k[0], k[1], w.count()};
            }
        }
        return best == null || what < 0 || what > 2 ? NONE : best[what];
    }

    // ---- sounds

    int sound() {
        String t = takeTape();
        if (spec == null || t.isEmpty() || t.length() % 4 != 0 || t.length() > 48) {
            return refuse(1);
        }
        List<int[]> rows = new ArrayList<>();
        for (int i = 0; i < t.length(); i += 4) {
            if (noCell(t.charAt(i), t.charAt(i + 1))) {
                return refuse(1);
            }
            rows.add(new int[] {t.charAt(i), t.charAt(i + 1), t.charAt(i + 2) * 256 + t.charAt(i + 3) - 500});
        }
        sounds = rows;
        return rows.size();
    }

    List<Integer> sets() {
        List<Integer> all = new ArrayList<>();
        for (int set = 0; spec != null && set < 1 << world.people.size(); set++) {
            boolean fits = awake(set);
            for (int[] s : sounds) {
                fits = fits && slack(world, s[0], s[1], set, 0) == s[2];
            }
            if (fits) {
                all.add(set);
            }
        }
        return all;
    }

    int who(int what) {
        if (spec == null || what < 0 || what > 2) {
            return NONE;
        }
        int and = -1;
        int or = 0;
        List<Integer> all = sets();
        for (int set : all) {
            and &= set;
            or |= set;
        }
        return what == 0 ? all.size() : what == 1 ? (all.isEmpty() ? 0 : and) : or;
    }

    int knock(int what) {
        int[] best = null;
        List<Integer> all = sets();
        for (int[] k : whole(world)) {
            Map<Integer, Integer> often = new HashMap<>();
            for (int set : all) {
                often.merge(slack(world, k[0], k[1], set, 0), 1, Integer::sum);
            }
            int most = often.values().stream().mapToInt(i -> i).max().orElse(0);
            if (best == null || most < best[2]) {
                best = new int[] {k[0], k[1], most};
            }
        }
        return best == null || all.isEmpty() || what < 0 || what > 2 ? NONE : best[what];
    }

    // ---- acts

    private void remember() {
        past.addLast(world.copy());
        if (past.size() > 20) {
            past.removeFirst();
        }
    }

    boolean rest(int p, int on) {
        if (noPerson(p) || on != 0 && on != 1 || world.people.get(p).rests == (on == 1)) {
            return deny(2);
        }
        remember();
        world.people.get(p).rests = on == 1;
        return true;
    }

    boolean go(int p, int c, int r) {
        if (noPerson(p) || noCell(c, r) || standing(world, c, r) != NONE) {
            return deny(2);
        }
        remember();
        world.people.get(p).column = c;
        world.people.get(p).row = r;
        return true;
    }

    boolean mend(int c, int r) {
        if (noCell(c, r) || !world.cracked[c][r]) {
            return deny(2);
        }
        remember();
        world.cracked[c][r] = false;
        return true;
    }

    int hours(int n) {
        if (spec == null || n < 1 || n > 100) {
            return refuse(3);
        }
        remember();
        int count = 0;
        for (int i = 0; i < n; i++) {
            count += hour(world, 0, NONE);
        }
        return count;
    }

    private int draw(int m) {
        seed = (1103515245L * seed + 12345L) % (1L << 31);
        return (int) (seed / 64 % m);
    }

    int chance(int n) {
        if (spec == null || n < 1 || n > 100) {
            return refuse(3);
        }
        remember();
        int count = 0;
        for (int i = 0; i < n; i++) {
            boolean hails = draw(100) < spec.hail;
            hour(world, 0, hails ? draw(spec.columns * spec.rows) : NONE);
            count += hails ? 1 : 0;
        }
        return count;
    }

    boolean undo() {
        if (past.isEmpty()) {
            return deny(4);
        }
        world = past.removeLast();
        return true;
    }

    boolean seed(int s) {
        if (s < 0) {
            return deny(5);
        }
        seed = s;
        return true;
    }

    // ---- questions

    long ask() {
        String t = takeTape();
        if (spec == null) {
            return NOTHING;
        }
        try {
            Text text = new Text(t, true);
            String kind = text.word();
            Yes test = null;
            Num sum = null;
            if (Arrays.asList("first", "last", "often").contains(kind)) {
                text.must(kind);
                test = text.test(0);
            } else if (Arrays.asList("total", "most", "least").contains(kind)) {
                text.must(kind);
                sum = text.sum(0);
            } else {
                throw text.no();
            }
            if (!text.ended()) {
                throw text.no();
            }
            faultKind = 0;
            faultAt = NONE;
            return answer(kind, test, sum);
        } catch (Fault f) {
            faultKind = f.kind;
            faultAt = f.at;
            return NOTHING;
        }
    }

    private long answer(String kind, Yes test, Num sum) {
        List<Integer> who = new ArrayList<>();
        List<Integer> values = new ArrayList<>();
        for (int p = 0; p < world.people.size(); p++) {
            Map<String, Integer> v = view(world, p, 0);
            v.put("holds", holding(world, 0) >> p & 1);
            if (test != null && test.of(v)) {
                who.add(p);
            }
            if (sum != null) {
                values.add(sum.of(v));
            }
        }
        switch (kind) {
            case "first": return who.isEmpty() ? NONE : who.get(0);
            case "last": return who.isEmpty() ? NONE : who.get(who.size() - 1);
            case "often": return who.size();
            case "total": return values.stream().mapToLong(i -> i).sum();
            case "most": return values.stream().mapToInt(i -> i).max().orElse(0);
            default: return values.stream().mapToInt(i -> i).min().orElse(0);
        }
    }

    // ---- images

    int image() {
        List<Integer> b = new ArrayList<>();
        b.add(world.hour / 256);
        b.add(world.hour % 256);
        for (int[] k : cells()) {
            b.add(world.cracked[k[0]][k[1]] ? 1 : 0);
        }
        for (Person p : world.people) {
            b.addAll(Arrays.asList(p.column, p.row, p.tired, p.rests ? 1 : 0));
        }
        int c = 127;
        for (int it : b) {
            c = (3 * c + it) % 251;
        }
        b.add(c);
        latestImage = b.stream().mapToInt(i -> i).toArray();
        return latestImage.length;
    }

    int octet(int k) {
        return k < 0 || k >= latestImage.length ? NONE : latestImage[k];
    }

    boolean on() {
        String t = takeTape();
        List<int[]> all = cells();
        int people = world.people.size();
        if (spec == null || t.length() != 3 + all.size() + 4 * people) {
            return deny(5);
        }
        int c = 127;
        for (int i = 0; i < t.length() - 1; i++) {
            c = (3 * c + t.charAt(i)) % 251;
        }
        World w = world.copy();
        w.kept.clear();
        w.hour = t.charAt(0) * 256 + t.charAt(1);
        boolean good = c == t.charAt(t.length() - 1) && w.hour <= 999;
        for (int i = 0; i < all.size(); i++) {
            char told = t.charAt(2 + i);
            good = good && told <= 1;
            w.cracked[all.get(i)[0]][all.get(i)[1]] = told == 1;
        }
        for (int p = 0; p < people; p++) {
            int from = 2 + all.size() + 4 * p;
            Person one = w.people.get(p);
            one.column = t.charAt(from);
            one.row = t.charAt(from + 1);
            one.tired = t.charAt(from + 2);
            one.rests = t.charAt(from + 3) == 1;
            good = good && !noCell(one.column, one.row) && one.tired <= 99 && t.charAt(from + 3) <= 1
                && standing(w, one.column, one.row) == p;
            for (int q = 0; q < p; q++) {
                good = good && steps(one.column, one.row, w.people.get(q).column, w.people.get(q).row) > 0;
            }
        }
        if (!good) {
            return deny(5);
        }
        world = w;
        past.clear();
        return true;
    }

    int status(int what) {
        return what < 0 || what > 5 ? NONE : refused[what];
    }
}
