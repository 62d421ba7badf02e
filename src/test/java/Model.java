import java.util.ArrayList;
import java.util.Arrays;
import java.util.HashMap;
import java.util.List;
import java.util.Map;
import java.util.NoSuchElementException;
import java.util.PriorityQueue;

/**
 * The document told once more, in the plainest way and without thrift (a recursive descent over characters, trees,
 * copies for every question), to be held against TwoLevel call by call.
 */
final class Model {
    static final int MIN = Integer.MIN_VALUE;
    private static final List<String> LANGUAGE = Arrays.asList("kind", "has", "deed", "do", "purse", "wage", "seed",
            "law", "apart", "heal", "luck", "or", "and", "not", "own", "other", "gap", "shows", "heals", "level", "day");
    private static final List<String> NAMES = Arrays.asList("own", "other", "gap", "shows", "heals", "level", "day");

    @SuppressWarnings("serial")
    static final class Fault extends RuntimeException {
        final int number;
        final int place;

        Fault(int number, int place) {
            this.number = number;
            this.place = place;
        }
    }

    interface Node {
        /** null is an ERROR. */
        Long of(Map<String, Long> names);
    }

    static final class Kind {
        String name;
        int shows;
        int heals;
        int[] first = new int[2];
    }

    static final class Deed {
        String name;
        int kind;
        int by;
        int cost;
        int odds;
    }

    static final class Doing {
        int twin;
        int deed;
        int day;
    }

    static final class World {
        final List<Kind> kinds = new ArrayList<>();
        final List<Deed> deeds = new ArrayList<>();
        final List<Doing> doings = new ArrayList<>();
        final Map<Integer, Integer> purses = new HashMap<>();
        final Map<Integer, Integer> wages = new HashMap<>();
        final Map<String, Node> laws = new HashMap<>();
        Integer seed = null;
        int knots = 0;
        int has = 0;
        int lines = 0;
    }

    static final class Reader {
        final String text;
        int at = 0;
        String token;
        int place;
        World w = new World();
        int open;

        Reader(String text) {
            this.text = text;
            next();
        }

        void next() {
            while (at < text.length() && (text.charAt(at) == ' ' || text.charAt(at) == '\n')) {
                at++;
            }
            place = at;
            if (at >= text.length()) {
                token = "";
                return;
            }
            String rest = text.substring(at);
            String found = rest.substring(0, 1);
            if (Character.toString(found.charAt(0)).matches("[a-z]")) {
                found = rest.replaceFirst("(?s)[^a-z].*$", "");
            } else if (found.matches("[0-9]")) {
                found = rest.replaceFirst("(?s)[^0-9].*$", "");
            } else if (rest.startsWith("<=") || rest.startsWith(">=") || rest.startsWith("<>")) {
                found = rest.substring(0, 2);
            }
            token = found;
            at += found.length();
        }

        void fail(int number) {
            throw new Fault(number, place);
        }

        void take(String wanted) {
            if (!token.equals(wanted)) {
                fail(1);
            }
            next();
        }

        int number(int most) {
            if (!token.matches("[0-9]+")) {
                fail(1);
            }
            if (new java.math.BigInteger(token).compareTo(java.math.BigInteger.valueOf(most)) > 0) {
                fail(2);
            }
            int n = Integer.parseInt(token);
            next();
            return n;
        }

        int signed(int most) {
            if (token.equals("-")) {
                next();
                return -number(most);
            }
            return number(most);
        }

        void mustBeName() {
            if (!token.matches("[a-z]{1,6}") || LANGUAGE.contains(token)) {
                fail(1);
            }
        }

        int kind() {
            mustBeName();
            for (int i = 0; i < w.kinds.size(); i++) {
                if (w.kinds.get(i).name.equals(token)) {
                    next();
                    return i;
                }
            }
            fail(4);
            return -1;
        }

        int deed() {
            mustBeName();
            for (int i = 0; i < w.deeds.size(); i++) {
                if (w.deeds.get(i).name.equals(token)) {
                    next();
                    return i;
                }
            }
            fail(4);
            return -1;
        }

        World read() {
            while (!token.isEmpty()) {
                line();
                take(";");
                w.lines++;
            }
            return w;
        }

        void line() {
            switch (token) {
                case "kind": {
                    if (w.kinds.size() == 6) {
                        fail(2);
                    }
                    next();
                    mustBeName();
                    for (Kind k : w.kinds) {
                        if (k.name.equals(token)) {
                            fail(3);
                        }
                    }
                    Kind k = new Kind();
                    k.name = token;
                    next();
                    k.shows = number(9);
                    k.heals = number(9);
                    w.kinds.add(k);
                    return;
                }
                case "has": {
                    if (w.has == 12) {
                        fail(2);
                    }
                    w.has++;
                    next();
                    int twin = number(1);
                    int kind = kind();
                    w.kinds.get(kind).first[twin] = signed(99);
                    return;
                }
                case "deed": {
                    if (w.deeds.size() == 8) {
                        fail(2);
                    }
                    next();
                    mustBeName();
                    for (Deed d : w.deeds) {
                        if (d.name.equals(token)) {
                            fail(3);
                        }
                    }
                    Deed d = new Deed();
                    d.name = token;
                    next();
                    d.kind = kind();
                    d.by = signed(9);
                    d.cost = number(99);
                    d.odds = number(100);
                    w.deeds.add(d);
                    return;
                }
                case "do": {
                    if (w.doings.size() == 12) {
                        fail(2);
                    }
                    next();
                    Doing d = new Doing();
                    d.twin = number(1);
                    d.deed = deed();
                    d.day = number(99);
                    w.doings.add(d);
                    return;
                }
                case "purse":
                    once(w.purses, 999);
                    return;
                case "wage":
                    once(w.wages, 9);
                    return;
                case "seed":
                    if (w.seed != null) {
                        fail(3);
                    }
                    next();
                    w.seed = number(99999);
                    return;
                case "law": {
                    next();
                    String law = token;
                    if (!Arrays.asList("apart", "heal", "luck").contains(law)) {
                        fail(1);
                    }
                    if (w.laws.containsKey(law)) {
                        fail(3);
                    }
                    next();
                    open = 0;
                    w.laws.put(law, e());
                    return;
                }
                default:
                    fail(1);
            }
        }

        void once(Map<Integer, Integer> of, int most) {
            next();
            int p = place;
            int twin = number(1);
            if (of.containsKey(twin)) {
                throw new Fault(3, p);
            }
            of.put(twin, number(most));
        }

        void knot() {
            if (w.knots == 64) {
                fail(2);
            }
            w.knots++;
            next();
        }

        Node e() {
            Node left = a();
            while (token.equals("or")) {
                knot();
                Node l = left;
                Node r = a();
                left = n -> both(l.of(n), r.of(n), "or");
            }
            return left;
        }

        Node a() {
            Node left = b();
            while (token.equals("and")) {
                knot();
                Node l = left;
                Node r = b();
                left = n -> both(l.of(n), r.of(n), "and");
            }
            return left;
        }

        Node b() {
            if (token.equals("not")) {
                knot();
                Node of = b();
                return n -> {
                    Long v = of.of(n);
                    return v == null ? null : v == 0 ? 1L : 0L;
                };
            }
            return c();
        }

        Node c() {
            Node left = s();
            if (Arrays.asList("<", "<=", "=", "<>", ">=", ">").contains(token)) {
                String sign = token;
                knot();
                Node right = s();
                return n -> both(left.of(n), right.of(n), sign);
            }
            return left;
        }

        Node s() {
            Node left = t();
            while (token.equals("+") || token.equals("-")) {
                String sign = token;
                knot();
                Node l = left;
                Node r = t();
                left = n -> both(l.of(n), r.of(n), sign);
            }
            return left;
        }

        Node t() {
            Node left = p();
            while (token.equals("*") || token.equals("/")) {
                String sign = token;
                knot();
                Node l = left;
                Node r = p();
                left = n -> both(l.of(n), r.of(n), sign);
            }
            return left;
        }

        Node p() {
            if (token.equals("(")) {
                if (open == 8) {
                    fail(2);
                }
                open++;
                next();
                Node inside = e();
                take(")");
                open--;
                return inside;
            }
            if (NAMES.contains(token)) {
                String name = token;
                knot();
                return n -> n.get(name);
            }
            if (!token.matches("[0-9]+")) {
                fail(1);
            }
            if (new java.math.BigInteger(token).bitLength() > 31 || Integer.parseInt(token) > 9999) {
                fail(2);
            }
            long value = Integer.parseInt(token);
            knot();
            return n -> value;
        }
    }

    private static Long both(Long l, Long r, String sign) {
        if (l == null || r == null) {
            return null;
        }
        java.math.BigInteger a = java.math.BigInteger.valueOf(l);
        java.math.BigInteger b = java.math.BigInteger.valueOf(r);
        java.math.BigInteger v;
        switch (sign) {
            case "+": v = a.add(b); break;
            case "-": v = a.subtract(b); break;
            case "*": v = a.multiply(b); break;
            case "/":
                if (r == 0) {
                    return null;
                }
                v = a.divide(b);
                break;
            case "<": return l < r ? 1L : 0L;
            case "<=": return l <= r ? 1L : 0L;
            case "=": return l.longValue() == r.longValue() ? 1L : 0L;
            case "<>": return l.longValue() != r.longValue() ? 1L : 0L;
            case ">=": return l >= r ? 1L : 0L;
            case ">": return l > r ? 1L : 0L;
            case "and": return l != 0 && r != 0 ? 1L : 0L;
            default: return l != 0 || r != 0 ? 1L : 0L;
        }
        return v.abs().compareTo(java.math.BigInteger.TEN.pow(12)) > 0 ? null : Long.valueOf(v.longValue());
    }

    static final class State {
        int[][] has;
        int[] purse = new int[2];
        int[] outcome;
        int day;
        int level;
        int off;
        int vain;
        int refused;
        long number;

        static State first(World w) {
            State s = new State();
            s.has = new int[w.kinds.size()][];
            for (int k = 0; k < s.has.length; k++) {
                s.has[k] = w.kinds.get(k).first.clone();
            }
            s.purse[0] = w.purses.getOrDefault(0, 0);
            s.purse[1] = w.purses.getOrDefault(1, 0);
            s.outcome = new int[w.doings.size()];
            s.number = w.seed == null ? 0 : w.seed;
            return s;
        }

        State copy() {
            State s = new State();
            s.has = new int[has.length][];
            for (int k = 0; k < has.length; k++) {
                s.has[k] = has[k].clone();
            }
            s.purse = purse.clone();
            s.outcome = outcome.clone();
            s.day = day;
            s.level = level;
            s.off = off;
            s.vain = vain;
            s.refused = refused;
            s.number = number;
            return s;
        }

        int gap(int k) {
            return Math.abs(has[k][0] - has[k][1]);
        }

        boolean isLevel() {
            for (int k = 0; k < has.length; k++) {
                if (has[k][0] != has[k][1]) {
                    return false;
                }
            }
            return true;
        }

        int happy(int twin) {
            int sum = 0;
            for (int[] of : has) {
                sum += of[twin];
            }
            return sum;
        }

        void comes(int k, int twin, int by) {
            has[k][twin] = Math.max(-999, Math.min(999, has[k][twin] + by));
        }
    }

    /** drawn, goes (as it goes), or a what of TRIED. */
    static final class Way {
        boolean drawn = false;
        int tried = -1;
        int idle = -1;
        int kind = -1;
        int heals = 0;
    }

    World w = new World();
    State now = State.first(w);
    State image = null;
    List<State> before = new ArrayList<>();
    List<int[]> told = new ArrayList<>();
    int knownBy = -1;
    byte[] tape = new byte[0];
    int fault = 0;
    int place = -1;

    private static final Way GOES = new Way();

    Long lawOf(String law, State s, int k, int twin, Way way) {
        Node node = w.laws.get(law);
        if (node == null) {
            return null;
        }
        Map<String, Long> names = new HashMap<>();
        names.put("own", (long) s.has[k][twin]);
        names.put("other", (long) s.has[k][1 - twin]);
        names.put("gap", (long) s.gap(k));
        names.put("shows", (long) w.kinds.get(k).shows);
        names.put("heals", (long) (way.kind == k ? way.heals : w.kinds.get(k).heals));
        names.put("level", (long) s.level);
        names.put("day", (long) s.day);
        return node.of(names);
    }

    static int within(Long v, int most, int without) {
        return v == null ? without : v < 0 ? 0 : v > most ? most : (int) (long) v;
    }

    int apartOf(State s, Way way) {
        int sum = 0;
        for (int k = 0; k < w.kinds.size(); k++) {
            sum += within(lawOf("apart", s, k, 0, way), 9999, s.gap(k));
        }
        return sum;
    }

    void day(State s, Way way) {
        for (int i = 0; i < w.doings.size(); i++) {
            Doing d = w.doings.get(i);
            if (d.day != s.day || (way.tried == 2 && way.idle == d.twin)) {
                continue;
            }
            Deed deed = w.deeds.get(d.deed);
            int cost = way.tried == 3 ? 0 : deed.cost;
            if (s.purse[d.twin] < cost) {
                s.outcome[i] = 3;
                s.refused++;
                continue;
            }
            s.purse[d.twin] -= cost;
            int luck = within(lawOf("luck", s, deed.kind, d.twin, way), 100, deed.odds);
            boolean off;
            if (way.tried == 1) {
                off = true;
            } else if (!way.drawn) {
                off = luck >= 50;
            } else if (luck == 0 || luck == 100) {
                off = luck == 100;
            } else {
                s.number = (s.number * 1103515245L + 12345L) % (1L << 31);
                off = s.number / 65536 % 100 < luck;
            }
            if (off) {
                s.comes(deed.kind, d.twin, deed.by);
                s.off++;
                s.outcome[i] = 1;
            } else {
                s.vain++;
                s.outcome[i] = 2;
            }
        }
        for (int k = 0; k < w.kinds.size(); k++) {
            for (int twin = 0; twin < 2; twin++) {
                int heals = way.kind == k ? way.heals : w.kinds.get(k).heals;
                int by = way.tried == 0 ? 0 : within(lawOf("heal", s, k, twin, way), 9, heals);
                for (int i = 0; i < by && s.has[k][twin] != 0; i++) {
                    s.has[k][twin] -= Integer.signum(s.has[k][twin]);
                }
            }
        }
        for (int twin = 0; twin < 2 && way.tried != 4; twin++) {
            s.purse[twin] = Math.min(9999, s.purse[twin] + w.wages.getOrDefault(twin, 0));
        }
        if (s.isLevel()) {
            s.level++;
        }
        s.day++;
    }

    State after(State from, int n, Way way) {
        State s = from.copy();
        for (int i = 0; i < n; i++) {
            day(s, way);
        }
        return s;
    }

    boolean isKind(int k) {
        return k >= 0 && k < w.kinds.size();
    }

    boolean isDeed(int d) {
        return d >= 0 && d < w.deeds.size();
    }

    boolean isTwin(int t) {
        return t == 0 || t == 1;
    }

    int feed(int a, int b, int c, int d, int e) {
        if (tape.length + 20 > 700) {
            return -1;
        }
        java.nio.ByteBuffer buffer = java.nio.ByteBuffer.allocate(tape.length + 20);
        buffer.put(tape).putInt(a).putInt(b).putInt(c).putInt(d).putInt(e);
        tape = buffer.array();
        return tape.length;
    }

    int text(int n) {
        if (n < 0 || n > tape.length) {
            return -2;
        }
        String text = new String(tape, 0, n, java.nio.charset.StandardCharsets.ISO_8859_1);
        tape = new byte[0];
        fault = 0;
        place = -1;
        try {
            w = new Reader(text).read();
        } catch (Fault f) {
            fault = f.number;
            place = f.place;
            return -1;
        }
        now = State.first(w);
        image = null;
        before.clear();
        told.clear();
        knownBy = -1;
        return w.lines;
    }

    int fault(int what) {
        return what == 0 ? fault : what == 1 ? place : -1;
    }

    int named(int what, int letters) {
        for (int i = 0; what == 0 && i < w.kinds.size(); i++) {
            if (Check.letters(w.kinds.get(i).name) == letters) {
                return i;
            }
        }
        for (int i = 0; what == 1 && i < w.deeds.size(); i++) {
            if (Check.letters(w.deeds.get(i).name) == letters) {
                return i;
            }
        }
        return -1;
    }

    int amount(int kind, int twin) {
        if (!isKind(kind)) {
            throw new IndexOutOfBoundsException();
        }
        if (!isTwin(twin)) {
            throw new NoSuchElementException();
        }
        return now.has[kind][twin];
    }

    int kind(int k, int what) {
        if (!isKind(k)) {
            return -1;
        }
        return what == 0 ? w.kinds.get(k).shows : what == 1 ? w.kinds.get(k).heals : what == 2 ? now.gap(k) : -1;
    }

    int deed(int d, int what) {
        if (!isDeed(d) || what < 0 || what > 3) {
            return MIN;
        }
        Deed deed = w.deeds.get(d);
        return new int[] {deed.kind, deed.by, deed.cost, deed.odds}[what];
    }

    int done(int i, int what) {
        if (i < 0 || i >= w.doings.size() || what < 0 || what > 3) {
            return -1;
        }
        Doing d = w.doings.get(i);
        return new int[] {d.twin, d.deed, d.day, now.outcome[i]}[what];
    }

    int twin(int t, int what) {
        if (!isTwin(t) || what < 0 || what > 2) {
            return MIN;
        }
        return new int[] {now.purse[t], w.wages.getOrDefault(t, 0), now.happy(t)}[what];
    }

    int apart() {
        return apartOf(now, GOES);
    }

    long law(int what, int which, int twin) {
        Long v = null;
        if (what == 0 && isKind(which)) {
            v = lawOf("apart", now, which, 0, GOES);
        } else if (what == 1 && isKind(which) && isTwin(twin)) {
            v = lawOf("heal", now, which, twin, GOES);
        } else if (what == 2 && isDeed(which) && isTwin(twin)) {
            v = lawOf("luck", now, w.deeds.get(which).kind, twin, GOES);
        }
        return v == null ? Long.MIN_VALUE : v;
    }

    private void keepForUndo() {
        before.add(now.copy());
        if (before.size() > 20) {
            before.remove(0);
        }
    }

    int does(int t, int d, boolean off) {
        if (!isTwin(t) || !isDeed(d)) {
            return -1;
        }
        Deed deed = w.deeds.get(d);
        if (now.purse[t] < deed.cost) {
            return -2;
        }
        keepForUndo();
        now.purse[t] -= deed.cost;
        if (off) {
            now.comes(deed.kind, t, deed.by);
        }
        return now.purse[t];
    }

    int give(int t, int much) {
        if (!isTwin(t) || much < 1 || much > 99) {
            return -1;
        }
        keepForUndo();
        now.purse[t] = Math.min(9999, now.purse[t] + much);
        return now.purse[t];
    }

    boolean exchange(int k) {
        if (!isKind(k) || now.gap(k) == 0) {
            return false;
        }
        keepForUndo();
        now.has[k] = new int[] {now.has[k][1], now.has[k][0]};
        return true;
    }

    int go(int n) {
        if (n < 0 || n > 200 || now.day + n > 9000) {
            return -1;
        }
        Way way = new Way();
        way.drawn = true;
        now = after(now, n, way);
        if (n > 0) {
            before.clear();
        }
        return now.day;
    }

    int ahead(int n, int what, int t) {
        if (n < 0 || n > 200 || what < 0 || what > 4 || ((what == 2 || what == 3) && !isTwin(t))) {
            return MIN;
        }
        State s = after(now, n, GOES);
        switch (what) {
            case 0: return apartOf(s, GOES);
            case 1: return s.level - now.level;
            case 2: return s.purse[t];
            case 3: return s.happy(t);
            default: return s.off - now.off;
        }
    }

    int nextLevel() {
        return next(true);
    }

    int nextOut() {
        return next(false);
    }

    private int next(boolean level) {
        State s = now.copy();
        for (int i = 0; i <= 199; i++) {
            if (s.isLevel() == level) {
                return i;
            }
            day(s, GOES);
        }
        return -2;
    }

    /** Dijkstra over what twin 0 has more. */
    private int evened(int kind, List<Integer> twins, boolean counted) {
        int start = now.has[kind][0] - now.has[kind][1];
        if (Math.abs(start) > 200) {
            return -2;
        }
        Map<Integer, Integer> settled = new HashMap<>();
        PriorityQueue<int[]> queue = new PriorityQueue<>((a, b) -> a[0] - b[0]);
        queue.add(new int[] {0, start});
        while (!queue.isEmpty()) {
            int[] at = queue.poll();
            if (at[1] == 0) {
                return at[0];
            }
            if (settled.putIfAbsent(at[1], at[0]) != null) {
                continue;
            }
            for (Deed d : w.deeds) {
                for (int t : twins) {
                    int to = t == 0 ? at[1] + d.by : at[1] - d.by;
                    if (d.kind == kind && Math.abs(to) <= 200) {
                        queue.add(new int[] {at[0] + (counted ? 1 : d.cost), to});
                    }
                }
            }
        }
        return -2;
    }

    int cheap(int k) {
        return isKind(k) ? evened(k, Arrays.asList(0, 1), false) : -1;
    }

    int few(int k) {
        return isKind(k) ? evened(k, Arrays.asList(0, 1), true) : -1;
    }

    int alone(int k, int t) {
        return isKind(k) && isTwin(t) ? evened(k, Arrays.asList(t), false) : -1;
    }

    /** Every row of choices is gone through from now on. */
    int plan(int t, int n, int what) {
        if (!isTwin(t) || n < 1 || n > 4 || what < 0 || what > 4) {
            return -1;
        }
        int base = w.deeds.size() + 1;
        int rows = 1;
        for (int i = 0; i < n; i++) {
            rows *= base;
        }
        int least = Integer.MAX_VALUE;
        int[] best = null;
        for (int row = 0; row < rows; row++) {
            int[] choice = new int[n];
            int rest = row;
            for (int i = n - 1; i >= 0; i--) {
                choice[i] = rest % base - 1;
                rest /= base;
            }
            State s = now.copy();
            for (int i = 0; i < n; i++) {
                if (choice[i] >= 0 && s.purse[t] >= w.deeds.get(choice[i]).cost) {
                    Deed d = w.deeds.get(choice[i]);
                    s.purse[t] -= d.cost;
                    s.comes(d.kind, t, d.by);
                }
                day(s, GOES);
            }
            int far = apartOf(s, GOES);
            if (far < least) {
                least = far;
                best = choice;
            }
        }
        return what == 4 ? least : what >= n || best[what] < 0 ? -2 : best[what];
    }

    int sign() {
        if (w.kinds.isEmpty()) {
            return -1;
        }
        int best = 0;
        for (int k = 0; k < w.kinds.size(); k++) {
            if (now.gap(k) * w.kinds.get(k).shows > now.gap(best) * w.kinds.get(best).shows) {
                best = k;
            }
        }
        return now.gap(best) * w.kinds.get(best).shows == 0 ? -2 : best;
    }

    int tells() {
        int bits = 0;
        for (int k = 0; k < w.kinds.size(); k++) {
            bits += now.gap(k) * w.kinds.get(k).shows >= 10 ? 1 << k : 0;
        }
        return bits;
    }

    int wanted(int t) {
        if (!isTwin(t)) {
            return -1;
        }
        int bits = 0;
        for (int k = 0; k < w.kinds.size(); k++) {
            bits += now.has[k][t] < now.has[k][1 - t] ? 1 << k : 0;
        }
        return bits;
    }

    int best(int t) {
        if (!isTwin(t)) {
            return -1;
        }
        List<long[]> found = new ArrayList<>();
        for (int d = 0; d < w.deeds.size(); d++) {
            State s = now.copy();
            s.comes(w.deeds.get(d).kind, t, w.deeds.get(d).by);
            found.add(new long[] {apartOf(s, GOES) * 1000000L + w.deeds.get(d).cost * 1000L + d, d});
        }
        found.sort((a, b) -> Long.compare(a[0], b[0]));
        return found.isEmpty() ? -2 : (int) found.get(0)[1];
    }

    private List<Integer> allRests() {
        List<Integer> all = new ArrayList<>();
        int far = apart();
        int[][][] has = new int[2][2][2];
        has[0][0] = new int[] {Math.max(10 - far, 0), Math.max(10 - far, 0)};
        has[0][1] = new int[] {0 - far / 10, Math.max(5, now.happy(1) / 5)};
        has[1][0] = new int[] {Math.max(5, now.happy(0) / 5), 0 - far / 10};
        has[1][1] = new int[] {now.happy(0) / 10, now.happy(1) / 10};
        for (int i = 0; i < 2; i++) {
            for (int j = 0; j < 2; j++) {
                if (has[1 - i][j][0] <= has[i][j][0] && has[i][1 - j][1] <= has[i][j][1]) {
                    all.add(10 * i + j);
                }
            }
        }
        return all;
    }

    int rests() {
        return allRests().size();
    }

    int rest(int k) {
        return k < 0 ? -1 : k >= allRests().size() ? -2 : allRests().get(k);
    }

    private static long fraction(long above, long below, int what) {
        long g = java.math.BigInteger.valueOf(above).gcd(java.math.BigInteger.valueOf(below)).longValue();
        return what == 0 ? above / g : below / g;
    }

    long sure(int d, int n, int what) {
        if (!isDeed(d) || n < 0 || n > 6 || what < 0 || what > 1) {
            return -1;
        }
        long above = 1;
        long below = 1;
        for (int i = 0; i < n; i++) {
            above *= w.deeds.get(d).odds;
            below *= 100;
        }
        return fraction(above, below, what);
    }

    int happier() {
        return now.happy(0) > now.happy(1) ? 0 : now.happy(0) < now.happy(1) ? 1 : -2;
    }

    int mean(int k, int t, int n, int what) {
        if (!isKind(k) || !isTwin(t) || n < 0 || n > 99 || what < 0 || what > 1) {
            return MIN;
        }
        long sum = 0;
        for (Doing d : w.doings) {
            Deed deed = w.deeds.get(d.deed);
            if (d.twin == t && deed.kind == k && d.day >= now.day && d.day <= now.day + n - 1) {
                sum += deed.by * deed.odds;
            }
        }
        return (int) fraction(sum, 100, what);
    }

    int nearest(int n, int what) {
        if (n < 0 || n > 200 || what < 0 || what > 1) {
            return -1;
        }
        int least = Integer.MAX_VALUE;
        int when = -1;
        State s = now.copy();
        for (int i = 0; i <= n; i++) {
            int far = apartOf(s, GOES);
            if (far < least) {
                least = far;
                when = i;
            }
            day(s, GOES);
        }
        return what == 0 ? when : least;
    }

    int payers(int d) {
        if (!isDeed(d)) {
            return -1;
        }
        int cost = w.deeds.get(d).cost;
        return (now.purse[0] < cost ? 0 : 1) | (now.purse[1] < cost ? 0 : 2);
    }

    int healed(int k) {
        if (!isKind(k)) {
            return -1;
        }
        int a = Math.abs(now.has[k][0]);
        int b = Math.abs(now.has[k][1]);
        int days = 0;
        while (a > 0 || b > 0) {
            if (w.kinds.get(k).heals == 0) {
                return -2;
            }
            a -= w.kinds.get(k).heals;
            b -= w.kinds.get(k).heals;
            days++;
        }
        return days;
    }

    int due(int t) {
        if (!isTwin(t)) {
            return -1;
        }
        int sum = 0;
        for (int i = 0; i < w.doings.size(); i++) {
            Doing d = w.doings.get(i);
            sum += d.twin == t && d.day >= now.day ? w.deeds.get(d.deed).cost : 0;
        }
        return sum;
    }

    int busiest() {
        int[] many = new int[100];
        for (Doing d : w.doings) {
            many[d.day] += d.day >= now.day ? 1 : 0;
        }
        int best = 0;
        for (int day = 0; day < 100; day++) {
            best = many[day] > many[best] ? day : best;
        }
        return many[best] == 0 ? -2 : best;
    }

    private int tell(int... what) {
        if (told.size() == 24) {
            return -1;
        }
        told.add(what);
        return told.size() - 1;
    }

    int note(int k, int amount, boolean atLeast) {
        return !isKind(k) || amount < -999 || amount > 999 ? -1 : tell(0, k, amount, atLeast ? 1 : 0);
    }

    int see(int days, int k, int gap, boolean atLeast) {
        return !isKind(k) || days < 1 || days > 60 || gap < 0 || gap > 999 ? -1 : tell(1, k, gap, atLeast ? 1 : 0, days);
    }

    int strike(int which) {
        return which < 0 || which >= told.size() ? -1 : tell(2, which);
    }

    boolean known(int n) {
        if (n < -1 || n > told.size()) {
            return false;
        }
        knownBy = n;
        return true;
    }

    private int reach() {
        return knownBy < 0 ? told.size() : knownBy;
    }

    private boolean counts(int which) {
        if (which >= reach()) {
            return false;
        }
        for (int i = which + 1; i < reach(); i++) {
            if (told.get(i)[0] == 2 && told.get(i)[1] == which && counts(i)) {
                return false;
            }
        }
        return true;
    }

    int who() {
        int bits = 3;
        for (int i = 0; i < told.size(); i++) {
            int[] n = told.get(i);
            for (int t = 0; n[0] == 0 && counts(i) && t < 2; t++) {
                if (now.has[n[1]][t] >= n[2] != (n[3] == 1)) {
                    bits &= ~(1 << t);
                }
            }
        }
        return bits;
    }

    int healings(int k) {
        if (!isKind(k)) {
            return -1;
        }
        int bits = 1023;
        for (int h = 0; h < 10; h++) {
            Way way = new Way();
            way.kind = k;
            way.heals = h;
            for (int i = 0; i < told.size(); i++) {
                int[] n = told.get(i);
                if (n[0] == 1 && counts(i) && after(State.first(w), n[4], way).gap(n[1]) >= n[2] != (n[3] == 1)) {
                    bits &= ~(1 << h);
                }
            }
        }
        return bits;
    }

    int chance(int seed, int n, int apart) {
        if (seed < 0 || n < 1 || n > 99 || apart < 0 || apart > 9999) {
            return -1;
        }
        Way way = new Way();
        way.drawn = true;
        long number = seed;
        int times = 0;
        for (int i = 0; i < 10; i++) {
            State s = now.copy();
            s.number = number;
            s = after(s, n, way);
            number = s.number;
            times += apartOf(s, GOES) <= apart ? 1 : 0;
        }
        return times;
    }

    int tried(int what, int i, int n) {
        if (what < 0 || what > 4 || n < 0 || n > 200 || (what == 2 ? !isTwin(i) : i != 0)) {
            return -1;
        }
        Way way = new Way();
        way.tried = what;
        way.idle = i;
        return apartOf(after(now, n, way), GOES);
    }

    int undo() {
        if (before.isEmpty()) {
            return -1;
        }
        now = before.remove(before.size() - 1);
        return before.size();
    }

    int keep() {
        image = now.copy();
        return now.day;
    }

    int back() {
        if (image == null) {
            return -1;
        }
        now = image.copy();
        before.clear();
        return now.day;
    }

    int count(int what) {
        int[] all = {w.kinds.size(), w.deeds.size(), w.doings.size(), w.knots, now.day, now.level, now.off, now.vain,
            now.refused, told.size(), reach(), before.size()};
        return what < 0 || what >= all.length ? -1 : all[what];
    }
}
