import java.util.ArrayList;
import java.util.List;
import java.util.Map;
import java.util.TreeSet;

/** A second, plain reading of the document: no code of the class, no care for speed. */
final class Oracle {
    private static final class Lamp {
        int kind, v, round, phase;
        boolean hidden;
        int[] row = new int[4];

        Lamp twin() {
            Lamp l = new Lamp();
            l.kind = kind;
            l.v = v;
            l.round = round;
            l.phase = phase;
            l.hidden = hidden;
            l.row = row.clone();
            return l;
        }
    }

    private static final String[] NAMES = {"STAR", "MOON", "COMET", "NEBULA", "TWIN", "GUEST", "TOLD"};
    private static final Map<String, String> ABOVE = Map.of("MOON", "STAR", "COMET", "STAR", "NEBULA", "STAR", "TWIN",
        "MOON", "GUEST", "COMET", "TOLD", "NEBULA");

    private static final TreeSet<String> ENDINGS = endings();

    private List<Lamp> lamps = new ArrayList<>();
    private String tape = "";
    private int skies = 0;
    private String sky = "";
    private int night = 0;
    private int[] seen = new int[2];
    private List<int[]> notes = new ArrayList<>();
    private List<int[]> plans = new ArrayList<>();
    private List<int[]> books = new ArrayList<>();
    private List<Integer> trace = new ArrayList<>();
    private Oracle kept = null;

    // ---- the text of a sky

    private static boolean isNumber(String s) {
        boolean digits = !s.isEmpty();
        for (int i = 0; i < s.length(); i++) {
            digits &= s.charAt(i) >= '0' && s.charAt(i) <= '9';
        }
        return digits && s.length() <= 2 && (s.length() == 1 || s.charAt(0) != '0');
    }

    /** Where the sign stands outside of all brackets, for the first time; -1. */
    private static int split(String s, char sign) {
        int open = 0;
        for (int i = 0; i < s.length(); i++) {
            char c = s.charAt(i);
            open += c == '(' ? 1 : c == ')' ? -1 : 0;
            if (c == sign && open == 0) {
                return i;
            }
        }
        return -1;
    }

    private static boolean isE(String s, int left) {
        int i = split(s, '|');
        return i < 0 ? isT(s, left) : isT(s.substring(0, i), left) && isE(s.substring(i + 1), left);
    }

    private static boolean isT(String s, int left) {
        int i = split(s, '&');
        return i < 0 ? isF(s, left) : isF(s.substring(0, i), left) && isT(s.substring(i + 1), left);
    }

    private static boolean isF(String s, int left) {
        if (s.startsWith("!")) {
            return left > 0 && isF(s.substring(1), left - 1);
        }
        if (s.startsWith("(") && s.endsWith(")") && s.length() > 2) {
            return left > 0 && split(s.substring(0, s.length() - 1), ')') < 0 && closes(s)
                && isE(s.substring(1, s.length() - 1), left - 1);
        }
        return s.length() > 2 && "pkvhnm".indexOf(s.charAt(0)) >= 0 && "<=>".indexOf(s.charAt(1)) >= 0
            && isNumber(s.substring(2));
    }

    /** Whether the first bracket's end is the last sign. */
    private static boolean closes(String s) {
        int open = 0;
        for (int i = 0; i < s.length(); i++) {
            open += s.charAt(i) == '(' ? 1 : s.charAt(i) == ')' ? -1 : 0;
            if (open == 0) {
                return i == s.length() - 1;
            }
        }
        return false;
    }

    private static boolean isClause(String s) {
        if (s.startsWith("turn ")) {
            return isNumber(s.substring(5));
        }
        if (s.startsWith("cloud ")) {
            return isNumber(s.substring(6));
        }
        String[] parts = s.split(" ", -1);
        return parts.length == 3 && (parts[0].equals("dear") || parts[0].equals("dim")) && isNumber(parts[1])
            && isE(parts[2], 5);
    }

    static boolean isSky(String s) {
        String[] clauses = s.split(";", -1);
        for (String clause : clauses) {
            if (!isClause(clause)) {
                return false;
            }
        }
        return clauses.length <= 10;
    }

    private static TreeSet<String> endings() {
        TreeSet<String> all = new TreeSet<>();
        for (String clause : new String[] {"turn 1", "cloud 1", "dear 1 p=1", "dim 1 p=1", "p=1", ""}) {
            for (int i = 0; i <= clause.length(); i++) {
                for (int brackets = 0; brackets <= 5; brackets++) {
                    all.add(clause.substring(i) + ")".repeat(brackets));
                }
            }
        }
        return all;
    }

    private static boolean canGoOn(String start) {
        for (String ending : ENDINGS) {
            if (isSky(start + ending)) {
                return true;
            }
        }
        return false;
    }

    static int fault(String s) {
        for (int i = 0; i < s.length(); i++) {
            if (!canGoOn(s.substring(0, i + 1))) {
                return i;
            }
        }
        return s.length();
    }

    private int last(String word, int without) {
        int n = without;
        for (String clause : sky.split(";")) {
            if (clause.startsWith(word + " ")) {
                n = Integer.parseInt(clause.substring(word.length() + 1));
            }
        }
        return n;
    }

    private int turn() {
        return last("turn", 1) == 0 ? 1 : last("turn", 1);
    }

    private int cloud() {
        return last("cloud", 0);
    }

    private boolean holds(String s, int light, int house, int at) {
        int i = split(s, '|');
        if (i >= 0) {
            return holds(s.substring(0, i), light, house, at) | holds(s.substring(i + 1), light, house, at);
        }
        i = split(s, '&');
        if (i >= 0) {
            return holds(s.substring(0, i), light, house, at) & holds(s.substring(i + 1), light, house, at);
        }
        if (s.charAt(0) == '!') {
            return !holds(s.substring(1), light, house, at);
        }
        if (s.charAt(0) == '(') {
            return holds(s.substring(1, s.length() - 1), light, house, at);
        }
        int[] known = {light, lamps.get(light).kind, lamps.get(light).v, house, at % 10, at % 7};
        int is = known["pkvhnm".indexOf(s.charAt(0))];
        int n = Integer.parseInt(s.substring(2));
        return s.charAt(1) == '<' ? is < n : s.charAt(1) == '>' ? is > n : is == n;
    }

    // ---- lights and nights

    private boolean no(int light) {
        return light < 0 || light >= lamps.size();
    }

    private static boolean out(int x, int a, int b) {
        return x < a || x > b;
    }

    private int whose(int at) {
        return at / turn() % 2;
    }

    private static boolean clouded(int at, int cloud) {
        return cloud > 0 && at % cloud == cloud - 1;
    }

    private static boolean over(String kind, int at, int v, int round, int phase) {
        switch (kind) {
            case "MOON": return round == 1 || (at + phase) % round < round / 2;
            case "COMET": return over("STAR", at, v, round, phase) && at >= v * 10;
            case "TWIN": return over("MOON", at, v, round, phase) || over("STAR", at, v, round, phase);
            case "GUEST": return over("COMET", at, v, round, phase) && at % 7 > 0;
            default: return (at + phase) % round == 0;
        }
    }

    private boolean up(int light, int at) {
        Lamp l = lamps.get(light);
        return !l.hidden && over(NAMES[l.kind], at, l.v, l.round, l.phase);
    }

    private int baseAt(int light, int house, int at) {
        int sum = 0;
        for (String clause : sky.split(";")) {
            String[] parts = clause.split(" ");
            if (parts.length == 3 && holds(parts[2], light, house, at)) {
                sum += (parts[0].equals("dear") ? 1 : -1) * Integer.parseInt(parts[1]);
            }
        }
        return sum;
    }

    private int worthAt(int light, int house, int at) {
        Lamp l = lamps.get(light);
        int b = baseAt(light, house, at);
        int w;
        switch (NAMES[l.kind]) {
            case "MOON": w = 2 + b; break;
            case "NEBULA": w = b + l.v; break;
            case "TWIN": w = 2 * (2 + b); break;
            case "GUEST": w = 5 + b + (house == 1 ? l.v : 0); break;
            case "TOLD": w = b + l.v + l.row[at % 4]; break;
            default: w = 5 + b;
        }
        return w < 0 ? 0 : w;
    }

    private int has(int house, int at, int cloud) {
        int sum = 0;
        for (int i = 0; i < lamps.size(); i++) {
            sum += !clouded(at, cloud) && up(i, at) ? worthAt(i, house, at) : 0;
        }
        return sum;
    }

    // ---- the calls

    int feed(int sign) {
        if (out(sign, 0, 127)) {
            return -2;
        }
        if (tape.length() == 100) {
            return -4;
        }
        tape += (char) sign;
        return tape.length();
    }

    int sky() {
        if (skies == 5) {
            return -4;
        }
        String text = tape;
        tape = "";
        if (!isSky(text)) {
            return -10 - fault(text);
        }
        sky = text;
        return skies++;
    }

    int light(int kind, int v, int round, int phase) {
        if (out(kind, 0, 6)) {
            return -1;
        }
        if (out(v, 0, 9) || out(round, 1, 30) || out(phase, 0, 29)) {
            return -2;
        }
        if (lamps.size() == 6) {
            return -4;
        }
        Lamp l = new Lamp();
        l.kind = kind;
        l.v = v;
        l.round = round;
        l.phase = phase;
        lamps.add(l);
        return lamps.size() - 1;
    }

    int of(int light, int what) {
        if (no(light) || out(what, 0, 5)) {
            return -1;
        }
        Lamp l = lamps.get(light);
        return new int[] {l.kind, l.v, l.round, l.phase, l.hidden ? 1 : 0, up(light, night) ? 1 : 0}[what];
    }

    int base(int light, int house, int n) {
        return no(light) || out(house, 0, 1) || out(n, 0, 60) ? -9999999 : baseAt(light, house, night + n);
    }

    int worth(int light, int house, int n) {
        return no(light) || out(house, 0, 1) ? -1 : out(n, 0, 60) ? -2 : worthAt(light, house, night + n);
    }

    int row(int light, int k, int n) {
        if (no(light) || out(k, 0, 3)) {
            return -1;
        }
        if (out(n, 0, 9)) {
            return -2;
        }
        if (lamps.get(light).kind != 6) {
            return -3;
        }
        int was = lamps.get(light).row[k];
        lamps.get(light).row[k] = n;
        return was;
    }

    int set(int light, int what, int n) {
        if (no(light) || out(what, 0, 1)) {
            return -1;
        }
        if (what == 0 ? out(n, 1, 30) : out(n, 0, 29)) {
            return -2;
        }
        Lamp l = lamps.get(light);
        int was = what == 0 ? l.round : l.phase;
        if (what == 0) {
            l.round = n;
        } else {
            l.phase = n;
        }
        return was;
    }

    int hide(int light, boolean is) {
        if (no(light)) {
            return -1;
        }
        int was = lamps.get(light).hidden ? 1 : 0;
        lamps.get(light).hidden = is;
        return was;
    }

    int told(int what) {
        if (out(what, 0, 9)) {
            return -1;
        }
        int ups = 0;
        for (int i = 0; i < lamps.size(); i++) {
            ups += up(i, night) ? (int) Math.pow(2, i) : 0;
        }
        return new int[] {night, turn(), cloud(), whose(night), clouded(night, cloud()) ? 1 : 0, ups, seen[0], seen[1],
            has(0, night, cloud()), has(1, night, cloud())}[what];
    }

    private void go(int most) {
        int house = whose(night);
        seen[house] = Math.min(most, seen[house] + has(house, night, cloud()));
        night++;
    }

    int pass(int n) {
        if (out(n, 0, 60)) {
            return -2;
        }
        if (night + n > 9999) {
            return -3;
        }
        for (int i = 0; i < n; i++) {
            go(9999999);
        }
        return night;
    }

    int on(int n, int what) {
        if (out(what, 0, 2)) {
            return -1;
        }
        if (out(n, 0, 60)) {
            return -2;
        }
        Oracle later = twin();
        for (int i = 0; i < n; i++) {
            later.go(Integer.MAX_VALUE);
        }
        int ups = 0;
        for (int i = 0; i < lamps.size(); i++) {
            ups += up(i, night + n) ? 1 : 0;
        }
        return what == 2 ? ups : later.seen[what];
    }

    int when(int light) {
        if (no(light)) {
            return -1;
        }
        int k = 0;
        while (k <= 900 && !up(light, night + k)) {
            k++;
        }
        return k > 900 ? -5 : k;
    }

    int meet(int one, int other) {
        if (no(one) || no(other)) {
            return -1;
        }
        if (one == other) {
            return -2;
        }
        int k = 0;
        while (k <= 900 && !(up(one, night + k) && up(other, night + k))) {
            k++;
        }
        return k > 900 ? -5 : k;
    }

    int deal(int n, int how, int what) {
        if (out(how, 0, 1) || out(what, 0, 2)) {
            return -1;
        }
        if (out(n, 1, 9)) {
            return -2;
        }
        int[] best = null;
        int[][] worths = new int[n][2];
        for (int k = 0; k < n; k++) {
            worths[k][0] = has(0, night + k, cloud());
            worths[k][1] = has(1, night + k, cloud());
        }
        for (int bits = 0; bits < Math.pow(2, n); bits++) {
            int[] is = {bits, 0, 0};
            for (int k = 0; k < n; k++) {
                int house = (bits / (int) Math.pow(2, k)) % 2;
                is[1 + house] += worths[k][house];
            }
            boolean better = best == null;
            if (best != null && how == 0) {
                better = is[1] + is[2] > best[1] + best[2];
            } else if (best != null) {
                int lesser = Math.min(is[1], is[2]) - Math.min(best[1], best[2]);
                better = lesser > 0 || lesser == 0 && is[1] + is[2] > best[1] + best[2];
            }
            best = better ? is : best;
        }
        return best[what];
    }

    int shares(int what) {
        if (out(what, 0, 1)) {
            return -1;
        }
        int most = -1;
        int answer = -5;
        int[][] months = new int[2][lamps.size()];
        for (int at = night; at < night + 28; at++) {
            for (int p = 0; p < lamps.size(); p++) {
                if (up(p, at)) {
                    months[0][p] += worthAt(p, 0, at);
                    months[1][p] += worthAt(p, 1, at);
                }
            }
        }
        for (int bits = 0; bits < 1 << lamps.size(); bits++) {
            int[][] to = new int[2][2];
            for (int p = 0; p < lamps.size(); p++) {
                to[0][bits >> p & 1] += months[0][p];
                to[1][bits >> p & 1] += months[1][p];
            }
            boolean noEnvy = !(to[0][1] > to[0][0]) && !(to[1][0] > to[1][1]);
            if (what == 0 && noEnvy) {
                return bits;
            }
            if (what == 1 && to[0][0] + to[1][1] > most) {
                most = to[0][0] + to[1][1];
                answer = bits;
            }
        }
        return answer;
    }

    int note(int light, int n, boolean isUp) {
        if (light == -1) {
            notes.clear();
            return 0;
        }
        if (no(light)) {
            return -1;
        }
        if (out(n, 0, 60)) {
            return -2;
        }
        if (notes.size() == 6) {
            return -4;
        }
        notes.add(new int[] {light, n, isUp ? 1 : 0});
        return notes.size();
    }

    private int fit(int light, int what, int field) {
        if (no(light) || out(what, 0, 1)) {
            return -1;
        }
        List<Integer> good = new ArrayList<>();
        for (int x = 0; x <= 30; x++) {
            if (field == 0 && x == 0 || field == 1 && x > 29 || field == 2 && x > 9) {
                continue;
            }
            Oracle were = twin();
            Lamp l = were.lamps.get(light);
            l.round = field == 0 ? x : l.round;
            l.phase = field == 1 ? x : l.phase;
            l.v = field == 2 ? x : l.v;
            boolean all = true;
            for (int[] note : notes) {
                all &= note[0] != light || were.up(light, night + note[1]) == (note[2] == 1);
            }
            if (all) {
                good.add(x);
            }
        }
        return what == 0 ? good.size() : good.isEmpty() ? -5 : good.get(0);
    }

    int rounds(int light, int what) {
        return fit(light, what, 0);
    }

    int phases(int light, int what) {
        return fit(light, what, 1);
    }

    int firm(int light, int what) {
        return fit(light, what, 2);
    }

    private static long part(long above, long below, int part) {
        long a = above;
        long b = below;
        while (b != 0) {
            long rest = a % b;
            a = b;
            b = rest;
        }
        return part == 0 ? above / a : below / a;
    }

    long odds(int house, int n, int q, int part) {
        if (out(house, 0, 1) || out(n, 0, 60) || out(q, 0, 9999) || out(part, 0, 1)) {
            return Long.MIN_VALUE;
        }
        int[] clear = new int[60];
        for (int k = 0; k < n; k++) {
            clear[k] = whose(night + k) == house ? has(house, night + k, 0) : 0;
        }
        int good = 0;
        for (int cloud = 0; cloud <= 12; cloud++) {
            int more = 0;
            for (int k = 0; k < n; k++) {
                more += clouded(night + k, cloud) ? 0 : clear[k];
            }
            good += more >= q ? 1 : 0;
        }
        return part(good, 13, part);
    }

    long mean(int house, int part) {
        if (out(house, 0, 1) || out(part, 0, 1)) {
            return Long.MIN_VALUE;
        }
        long sum = 0;
        for (int k = 0; k < 28; k++) {
            sum += has(house, night + k, cloud());
        }
        return part(sum, 28, part);
    }

    int plan(int what, int light) {
        if (what == -1) {
            plans.clear();
            return 0;
        }
        if (out(what, 0, 2) || what > 0 && no(light)) {
            return -1;
        }
        if (plans.size() == 8) {
            return -4;
        }
        plans.add(new int[] {what, light});
        return plans.size();
    }

    int done(int what) {
        if (out(what, 0, 1)) {
            return -1;
        }
        Oracle later = twin();
        for (int[] row : plans) {
            if (row[0] == 0) {
                later.go(Integer.MAX_VALUE);
            } else {
                later.lamps.get(row[1]).hidden = row[0] == 1;
            }
        }
        return later.seen[what];
    }

    int book(int n, int house) {
        if (n == -1) {
            books.clear();
            return 0;
        }
        if (out(house, 0, 1)) {
            return -1;
        }
        if (out(n, 0, 60)) {
            return -2;
        }
        if (books.size() == 8) {
            return -4;
        }
        books.add(new int[] {n, house});
        return books.size();
    }

    int looked() {
        for (int i = 0; i < books.size(); i++) {
            if (whose(night + books.get(i)[0]) != books.get(i)[1]) {
                return i;
            }
        }
        return -5;
    }

    // ---- acts: a body is found by its kind's name and its act's name

    private static boolean hasBody(String kind, String act) {
        return kind.equals("STAR") || List.of("MOON glows", "COMET claims", "NEBULA tells", "TWIN tells", "GUEST glows",
            "TOLD claims").contains(kind + " " + act);
    }

    private int run(String from, String act, int light, int x) {
        String kind = from;
        while (!hasBody(kind, act)) {
            kind = ABOVE.get(kind);
        }
        Lamp l = lamps.get(light);
        String own = NAMES[l.kind];
        String above = ABOVE.get(kind);
        switch (kind + " " + act) {
            case "STAR glows": trace.add(1); return x + light;
            case "STAR claims": trace.add(2); return run(own, "glows", light, x) - l.v;
            case "STAR tells": trace.add(3); return run(own, "claims", light, x) * 2;
            case "MOON glows": trace.add(11); return run(above, act, light, x * 3);
            case "COMET claims": trace.add(21); return -run(above, act, light, x);
            case "NEBULA tells": trace.add(31); return run(above, act, light, x) ^ 7;
            case "TWIN tells": trace.add(41); return run(above, act, light, x - 1) + run(own, "glows", light, 2);
            case "GUEST glows": trace.add(51); return run(above, act, light, x) ^ light;
            default: trace.add(61); return run(above, act, light, x) + l.v;
        }
    }

    int act(int light, int act, int x) {
        trace = new ArrayList<>();
        if (no(light) || out(act, 0, 2)) {
            return 0;
        }
        return run(NAMES[lamps.get(light).kind], List.of("glows", "claims", "tells").get(act), light, x);
    }

    int trace(int i) {
        return i < 0 || i >= trace.size() || i >= 20 ? -1 : trace.get(i);
    }

    int as(int light, int k) {
        if (no(light) || out(k, 0, 6)) {
            return -1;
        }
        for (String kind = NAMES[lamps.get(light).kind]; kind != null; kind = ABOVE.get(kind)) {
            if (kind.equals(NAMES[k])) {
                return lamps.get(light).v;
            }
        }
        return -6;
    }

    private Oracle twin() {
        Oracle o = new Oracle();
        o.take(this);
        return o;
    }

    private void take(Oracle other) {
        lamps = new ArrayList<>();
        for (Lamp l : other.lamps) {
            lamps.add(l.twin());
        }
        tape = other.tape;
        skies = other.skies;
        sky = other.sky;
        night = other.night;
        seen = other.seen.clone();
        notes = new ArrayList<>(other.notes);
        plans = new ArrayList<>(other.plans);
        books = new ArrayList<>(other.books);
    }

    int image() {
        kept = twin();
        return lamps.size();
    }

    int undo() {
        if (kept == null) {
            return -3;
        }
        take(kept);
        return lamps.size();
    }

    int count(int what) {
        if (out(what, 0, 6)) {
            return -1;
        }
        return new int[] {lamps.size(), skies, notes.size(), plans.size(), books.size(), tape.length(), trace.size()}[what];
    }
}
