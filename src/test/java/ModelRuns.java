import java.util.ArrayList;
import java.util.Arrays;
import java.util.HashMap;
import java.util.List;
import java.util.Map;
import java.util.Random;
import java.util.TreeSet;

/** Random runs of calls, each answer held against a slow model that follows the document's words as they stand. */
public final class ModelRuns {
    static final int NONE = -1, UNKNOWN = -2, OUTSIDE = -3, NOT = -4, FULL = -5;
    static final String[] KINDS = {"plain", "against", "second", "spring"};

    /** What can change in BEATS. */
    static final class State {
        int[] vanes = new int[8];
        List<Integer> walkers = new ArrayList<>();

        State copy() {
            State s = new State();
            s.vanes = vanes.clone();
            s.walkers = new ArrayList<>(walkers);
            return s;
        }
    }

    /** What is told. */
    static final class Plan {
        int n = 2;
        int[] kinds = new int[8];
        List<List<Integer>> ways = new ArrayList<>();
        State first = new State();

        Plan() {
            for (int c = 0; c < 8; c++) {
                ways.add(new ArrayList<>());
            }
        }

        Plan copy() {
            Plan p = new Plan();
            p.n = n;
            p.kinds = kinds.clone();
            for (int c = 0; c < 8; c++) {
                p.ways.get(c).addAll(ways.get(c));
            }
            p.first = first.copy();
            return p;
        }

        boolean left(int c) {
            return kinds[c] != 3 && !ways.get(c).isEmpty();
        }

        void turn(int[] vanes, int c) {
            int w = ways.get(c).size();
            int by = kinds[c] == 0 ? 1 : kinds[c] == 1 ? w - 1 : 2;
            vanes[c] = (vanes[c] + by) % w;
        }

        int leave(int[] vanes, int c) {
            if (!left(c)) {
                return c;
            }
            turn(vanes, c);
            return ways.get(c).get(vanes[c]);
        }

        void beat(State s) {
            for (int w = 0; w < s.walkers.size(); w++) {
                s.walkers.set(w, leave(s.vanes, s.walkers.get(w)));
            }
        }

        /** All rows of VANES, the first first. */
        List<int[]> rows() {
            List<int[]> rows = new ArrayList<>();
            rows.add(new int[8]);
            for (int c = 0; c < n; c++) {
                List<int[]> more = new ArrayList<>();
                for (int[] row : rows) {
                    for (int v = 0; v < Math.max(1, ways.get(c).size()); v++) {
                        int[] next = row.clone();
                        next[c] = v;
                        more.add(next);
                    }
                }
                rows = more;
            }
            return rows;
        }

        long rowCount() {
            long product = 1;
            for (int c = 0; c < n; c++) {
                product *= Math.max(1, ways.get(c).size());
            }
            return product;
        }

        int beatsByRow(int[] row, int from, int to) {
            int[] vanes = row.clone();
            int at = from;
            for (int b = 0; b <= 99; b++) {
                if (at == to) {
                    return b;
                }
                at = leave(vanes, at);
            }
            return NONE;
        }
    }

    static final class Model {
        StringBuilder text = new StringBuilder();
        Plan plan = new Plan();
        State now = new State();
        int beats;
        State[] kept = new State[2];
        int[] keptBeats = new int[2];
        int lines;
        Plan read;

        boolean isCorner(int c) {
            return c >= 0 && c < plan.n;
        }

        boolean isWalker(int w) {
            return w >= 0 && w < now.walkers.size();
        }

        int write(long bytes, int n) {
            if (n < 1 || n > 8) {
                return OUTSIDE;
            }
            if (text.length() + n > 200) {
                return FULL;
            }
            for (int i = 0; i < n; i++) {
                text.append((char) (bytes >> 8 * i & 255));
            }
            return text.length();
        }

        int erase() {
            int had = text.length();
            text.setLength(0);
            return had;
        }

        int fault() {
            List<String> tokens = new ArrayList<>();
            List<Integer> places = new ArrayList<>();
            java.util.regex.Matcher m = java.util.regex.Pattern.compile("[a-z]+|[0-9]+|[^ ]", java.util.regex.Pattern.DOTALL)
                .matcher(text);
            while (m.find()) {
                tokens.add(m.group());
                places.add(m.start());
            }
            for (int i = 0; i < 5; i++) {
                tokens.add("");
                places.add(text.length());
            }
            read = plan.copy();
            lines = 0;
            int i = 0;
            while (true) {
                int used = line(tokens.subList(i, i + 4));
                if (used < 0) {
                    return places.get(i + ~used);
                }
                i += used;
                lines++;
                if (tokens.get(i).isEmpty()) {
                    return NONE;
                }
                if (!tokens.get(i).equals(";") || lines == 12) {
                    return places.get(i);
                }
                i++;
            }
        }

        /** How many tokens the line has; ~i: its token i is a fault. */
        int line(List<String> t) {
            String word = t.get(0);
            List<Integer> nobody = read.first.walkers;
            switch (word) {
                case "nobody":
                    nobody.clear();
                    return 1;
                case "town":
                    if (!t.get(1).matches("[2-8]")) {
                        return ~1;
                    }
                    read = new Plan();
                    read.n = Integer.parseInt(t.get(1));
                    return 2;
                case "walker":
                    if (nobody.size() == 5) {
                        return ~0;
                    }
                    if (!isDigitBelow(t.get(1), read.n)) {
                        return ~1;
                    }
                    nobody.add(Integer.parseInt(t.get(1)));
                    return 2;
                case "way":
                case "vane":
                    if (!isDigitBelow(t.get(1), read.n)) {
                        return ~1;
                    }
                    int c = Integer.parseInt(t.get(1));
                    List<Integer> ways = read.ways.get(c);
                    if (word.equals("way") && ways.size() == 4) {
                        return ~1;
                    }
                    if (!isDigitBelow(t.get(2), word.equals("way") ? read.n : ways.size())) {
                        return ~2;
                    }
                    int second = Integer.parseInt(t.get(2));
                    if (word.equals("way")) {
                        ways.add(second);
                    } else {
                        read.first.vanes[c] = second;
                    }
                    return 3;
                default:
                    int kind = Arrays.asList(KINDS).indexOf(word);
                    if (kind < 0) {
                        return ~0;
                    }
                    if (!isDigitBelow(t.get(1), read.n)) {
                        return ~1;
                    }
                    read.kinds[Integer.parseInt(t.get(1))] = kind;
                    return 2;
            }
        }

        static boolean isDigitBelow(String token, int bound) {
            return token.matches("[0-9]") && Integer.parseInt(token) < bound;
        }

        int town() {
            if (fault() != NONE) {
                return NOT;
            }
            plan = read;
            now = plan.first.copy();
            beats = 0;
            kept = new State[2];
            text.setLength(0);
            return lines;
        }

        int corner(int c, int what) {
            if (!isCorner(c)) {
                return UNKNOWN;
            }
            if (what < 0 || what > 3) {
                return OUTSIDE;
            }
            int bits = 0;
            for (int w = 0; w < now.walkers.size(); w++) {
                bits += now.walkers.get(w) == c ? 1 << w : 0;
            }
            int vane = plan.ways.get(c).isEmpty() ? NONE : now.vanes[c];
            return new int[] {plan.kinds[c], plan.ways.get(c).size(), vane, bits}[what];
        }

        int way(int c, int w) {
            return !isCorner(c) || w < 0 || w >= plan.ways.get(c).size() ? UNKNOWN : plan.ways.get(c).get(w);
        }

        int as(int c, int kind) {
            if (!isCorner(c)) {
                return UNKNOWN;
            }
            if (kind < 0 || kind > 4) {
                return OUTSIDE;
            }
            int[][] are = {{0, 1}, {0, 1, 2}, {0, 1, 3}, {0, 4}};
            boolean such = false;
            for (int k : are[plan.kinds[c]]) {
                such |= k == kind;
            }
            if (!such) {
                return NOT;
            }
            return plan.left(c) ? plan.leave(now.vanes.clone(), c) : NONE;
        }

        int walker(int w) {
            return isWalker(w) ? now.walkers.get(w) : UNKNOWN;
        }

        int go(int n) {
            if (n < 1 || n > 999) {
                return OUTSIDE;
            }
            if (beats + n > 99999) {
                return FULL;
            }
            for (int b = 0; b < n; b++) {
                plan.beat(now);
            }
            return beats += n;
        }

        int turn(int c) {
            if (!isCorner(c)) {
                return UNKNOWN;
            }
            if (!plan.left(c)) {
                return NOT;
            }
            plan.turn(now.vanes, c);
            return now.vanes[c];
        }

        int put(int w, int c) {
            return !isWalker(w) || !isCorner(c) ? UNKNOWN : now.walkers.set(w, c);
        }

        int keep(int k) {
            if (k != 0 && k != 1) {
                return UNKNOWN;
            }
            kept[k] = now.copy();
            return keptBeats[k] = beats;
        }

        int back(int k) {
            if (k != 0 && k != 1) {
                return UNKNOWN;
            }
            if (kept[k] == null) {
                return NOT;
            }
            now = kept[k].copy();
            return beats = keptBeats[k];
        }

        int later(int which, int t, int what) {
            if (what != 0 && what != 1) {
                return OUTSIDE;
            }
            if (what == 0 ? !isWalker(which) : !isCorner(which)) {
                return UNKNOWN;
            }
            if (t < 0 || t > 99) {
                return OUTSIDE;
            }
            State s = now.copy();
            for (int b = 0; b < t; b++) {
                plan.beat(s);
            }
            return what == 0 ? s.walkers.get(which) : plan.ways.get(which).isEmpty() ? NONE : s.vanes[which];
        }

        static int firstAt(Plan plan, State from, int w, int c, int most) {
            State s = from.copy();
            for (int b = 0; b <= most; b++) {
                if (s.walkers.get(w) == c) {
                    return b;
                }
                plan.beat(s);
            }
            return NONE;
        }

        int when(int w, int c) {
            return !isWalker(w) || !isCorner(c) ? UNKNOWN : firstAt(plan, now, w, c, 999);
        }

        int often(int w, int c, int t) {
            if (!isWalker(w) || !isCorner(c)) {
                return UNKNOWN;
            }
            if (t < 1 || t > 999) {
                return OUTSIDE;
            }
            State s = now.copy();
            int times = 0;
            for (int b = 1; b <= t; b++) {
                plan.beat(s);
                times += s.walkers.get(w) == c ? 1 : 0;
            }
            return times;
        }

        int meet(int one, int other, int what) {
            if (!isWalker(one) || !isWalker(other)) {
                return UNKNOWN;
            }
            if (one == other || what != 0 && what != 1) {
                return OUTSIDE;
            }
            State s = now.copy();
            for (int b = 0; b <= 999; b++) {
                if (s.walkers.get(one).intValue() == s.walkers.get(other)) {
                    return what == 0 ? b : s.walkers.get(one);
                }
                plan.beat(s);
            }
            return NONE;
        }

        int round(int c, int what) {
            if (!isCorner(c)) {
                return UNKNOWN;
            }
            if (what != 0 && what != 1) {
                return OUTSIDE;
            }
            Map<String, Integer> seen = new HashMap<>();
            int[] vanes = now.vanes.clone();
            int at = c;
            for (int b = 0; b <= 999; b++) {
                Integer before = seen.put(at + Arrays.toString(vanes), b);
                if (before != null) {
                    return what == 0 ? before : b - before;
                }
                at = plan.leave(vanes, at);
            }
            return NONE;
        }

        int quick(int from, int to, int i) {
            if (!isCorner(from) || !isCorner(to) || i >= plan.n) {
                return UNKNOWN;
            }
            if (i < -1) {
                return OUTSIDE;
            }
            int best = NONE;
            int[] first = null;
            for (int[] row : plan.rows()) {
                int b = plan.beatsByRow(row, from, to);
                if (b != NONE && (first == null || b < best)) {
                    best = b;
                    first = row;
                }
            }
            if (i == NONE) {
                return best;
            }
            return first == null || plan.ways.get(i).isEmpty() ? NONE : first[i];
        }

        int slow(int from, int to) {
            if (!isCorner(from) || !isCorner(to)) {
                return UNKNOWN;
            }
            int most = 0;
            for (int[] row : plan.rows()) {
                int b = plan.beatsByRow(row, from, to);
                if (b == NONE) {
                    return NONE;
                }
                most = Math.max(most, b);
            }
            return most;
        }

        int pennies(int w, int c, int t, int i) {
            if (!isWalker(w) || !isCorner(c) || i >= plan.n) {
                return UNKNOWN;
            }
            if (t < 0 || t > 99 || i < -1) {
                return OUTSIDE;
            }
            int fewest = 5;
            int[] first = null;
            int rows = (int) Math.pow(5, plan.n);
            for (int r = 0; r < rows; r++) {
                int[] turns = new int[plan.n];
                int sum = 0;
                int rest = r;
                boolean can = true;
                for (int k = plan.n - 1; k >= 0; k--) {
                    turns[k] = rest % 5;
                    rest /= 5;
                    sum += turns[k];
                    can &= turns[k] == 0 || plan.left(k);
                }
                if (!can || sum >= fewest) {
                    continue;
                }
                State s = now.copy();
                for (int k = 0; k < plan.n; k++) {
                    for (int j = 0; j < turns[k]; j++) {
                        plan.turn(s.vanes, k);
                    }
                }
                if (firstAt(plan, s, w, c, t) != NONE) {
                    fewest = sum;
                    first = turns;
                }
            }
            return first == null ? NONE : i == NONE ? fewest : first[i];
        }

        int shares(int from, int m, int at) {
            if (!isCorner(from) || !isCorner(at)) {
                return UNKNOWN;
            }
            if (m < 1 || m > 99) {
                return OUTSIDE;
            }
            int[] vanes = now.vanes.clone();
            int ends = 0;
            for (int k = 0; k < m; k++) {
                int c = from;
                int b = 0;
                while (plan.left(c) && b < 999) {
                    c = plan.leave(vanes, c);
                    b++;
                }
                ends += !plan.left(c) && c == at ? 1 : 0;
            }
            return ends;
        }

        int settled(int what) {
            if (what != 0 && what != 1) {
                return OUTSIDE;
            }
            int[] vanes = now.vanes.clone();
            TreeSet<Integer> taken = new TreeSet<>();
            int size = now.walkers.size();
            for (int k = 0; k < size; k++) {
                int c = now.walkers.get(what == 0 ? k : size - 1 - k);
                int b = 0;
                while (taken.contains(c)) {
                    if (b == 999) {
                        return NONE;
                    }
                    c = plan.leave(vanes, c);
                    b++;
                }
                taken.add(c);
            }
            int bits = 0;
            for (int c : taken) {
                bits |= 1 << c;
            }
            return bits;
        }

        /** By going forward from all that can have been, not back from what is. */
        int past(int c, int t, int what) {
            if (!isCorner(c)) {
                return UNKNOWN;
            }
            if (t < 1 || t > 6 || what != 0 && what != 1) {
                return OUTSIDE;
            }
            TreeSet<String> rows = new TreeSet<>();
            int bits = 0;
            for (int[] row : plan.rows()) {
                for (int start = 0; start < plan.n; start++) {
                    int[] vanes = row.clone();
                    int at = start;
                    String path = "" + start;
                    boolean went = true;
                    for (int b = 0; b < t && went; b++) {
                        went = plan.left(at);
                        at = plan.leave(vanes, at);
                        path += at;
                    }
                    if (went && at == c && Arrays.equals(vanes, now.vanes)) {
                        rows.add(path);
                        bits |= 1 << start;
                    }
                }
            }
            return what == 0 ? rows.size() : bits;
        }

        int count(int what) {
            int ways = 0;
            int bits = 0;
            for (int c = 0; c < plan.n; c++) {
                ways += plan.ways.get(c).size();
                bits |= plan.left(c) ? 0 : 1 << c;
            }
            int[] all = {plan.n, ways, now.walkers.size(), beats, bits, text.length()};
            return what < 0 || what > 5 ? OUTSIDE : all[what];
        }
    }

    final Random random;
    final StringBuilder log = new StringBuilder();
    NextWay real = new NextWay();
    Model model = new Model();
    boolean rich;
    int wrong;

    ModelRuns(long seed) {
        random = new Random(seed);
    }

    void due(String call, int got, int want) {
        log.append(call).append(" = ").append(want).append('\n');
        if (got != want) {
            wrong++;
            System.out.println(log + "answered " + got);
        }
    }

    int below(int n) {
        return random.nextInt(n);
    }

    /** A number that is mostly in bounds. */
    int near(int low, int high) {
        int odd = below(30);
        if (odd == 0) {
            return new int[] {Integer.MIN_VALUE, -3, -2, low - 1, high + 1, 1000, Integer.MAX_VALUE}[below(7)];
        }
        if (odd == 1) {
            return random.nextBoolean() ? low : high;
        }
        return high < low ? low : low + below(high - low + 1);
    }

    int someCorner() {
        return near(0, model.plan.n - 1);
    }

    int someWalker() {
        return near(0, model.now.walkers.size() - 1);
    }

    void tell(String text) {
        for (int i = 0; i < text.length(); i += 8) {
            int n = Math.min(8, text.length() - i);
            long bytes = 0;
            for (int k = 0; k < n; k++) {
                bytes |= (long) text.charAt(i + k) << 8 * k;
            }
            if (n < 8) {
                bytes |= random.nextLong() << 8 * n;
            }
            due("write(" + bytes + "L, " + n + ")", real.write(bytes, n), model.write(bytes, n));
        }
    }

    String someLine(int n) {
        switch (below(12)) {
            case 0:
                return KINDS[below(4)] + " " + below(n);
            case 1:
                return KINDS[1 + below(2)] + " " + below(n);
            case 2:
                return "vane " + below(n) + " " + below(3);
            case 3:
            case 4:
                return "walker " + below(n);
            case 5:
                return below(4) == 0 ? "nobody" : "walker " + below(n);
            case 6:
                return below(6) == 0 ? "town " + near(2, 8) : "way " + below(n) + " " + below(n);
            default:
                return "way " + below(n) + " " + below(n);
        }
    }

    String someText() {
        int n = model.plan.n;
        StringBuilder s = new StringBuilder();
        if (below(4) == 0) {
            n = 2 + below(below(3) == 0 ? 7 : 4);
            s.append("town ").append(n).append(';');
        }
        int lines = 1 + below(below(9) == 0 ? 14 : 8);
        for (int i = 0; i < lines; i++) {
            s.append(i == 0 ? "" : below(9) == 0 ? " ; " : ";").append(someLine(n));
        }
        if (below(6) == 0 && s.length() > 0) {
            int at = below(s.length());
            String[] odd = {" ", ";", "0", "9", "a", "walker", "vane 0 ", "A", "" + (char) 200, "\n", "-", ";;"};
            s.replace(at, at + below(2), odd[below(odd.length)]);
        }
        return s.toString();
    }

    void tellSome() {
        if (below(3) > 0) {
            due("erase()", real.erase(), model.erase());
        }
        String text = someText();
        tell(text);
        due("fault() // " + model.text, real.fault(), model.fault());
        due("town()", real.town(), model.town());
        if (below(2) == 0) {
            due("erase()", real.erase(), model.erase());
        }
    }

    void callSome() {
        int a = someCorner();
        int b = someCorner();
        int w = someWalker();
        int v = someWalker();
        int what = near(0, 1);
        boolean few = model.plan.rowCount() <= 600 || below(40) == 0;
        boolean small = model.plan.n <= 6 || below(20) == 0;
        switch (below(30)) {
            case 0:
                if (!rich) {
                    tellSome();
                } else if (below(3) == 0) {
                    tellRich();
                }
                break;
            case 1:
                int k = near(0, 3);
                due("corner(" + a + ", " + k + ")", real.corner(a, k), model.corner(a, k));
                break;
            case 2:
                int way = near(0, 3);
                due("way(" + a + ", " + way + ")", real.way(a, way), model.way(a, way));
                break;
            case 3:
                int kind = near(0, 4);
                due("as(" + a + ", " + kind + ")", real.as(a, kind), model.as(a, kind));
                break;
            case 4:
                due("walker(" + w + ")", real.walker(w), model.walker(w));
                break;
            case 5:
                int n = below(3) == 0 ? near(1, 999) : near(1, 9);
                due("go(" + n + ")", real.go(n), model.go(n));
                break;
            case 6:
                due("turn(" + a + ")", real.turn(a), model.turn(a));
                break;
            case 7:
                due("put(" + w + ", " + a + ")", real.put(w, a), model.put(w, a));
                break;
            case 8:
                int kept = near(0, 1);
                due("keep(" + kept + ")", real.keep(kept), model.keep(kept));
                break;
            case 9:
                int again = near(0, 1);
                due("back(" + again + ")", real.back(again), model.back(again));
                break;
            case 10:
                int t = near(0, 99);
                int which = what == 0 ? w : a;
                due("later(" + which + ", " + t + ", " + what + ")", real.later(which, t, what),
                    model.later(which, t, what));
                break;
            case 11:
            case 12:
                due("when(" + w + ", " + a + ")", real.when(w, a), model.when(w, a));
                break;
            case 13:
                int of = near(1, 999);
                due("often(" + w + ", " + a + ", " + of + ")", real.often(w, a, of), model.often(w, a, of));
                break;
            case 14:
            case 15:
                due("meet(" + w + ", " + v + ", " + what + ")", real.meet(w, v, what), model.meet(w, v, what));
                break;
            case 16:
            case 17:
                due("round(" + a + ", " + what + ")", real.round(a, what), model.round(a, what));
                break;
            case 18:
            case 19:
                int i = near(-1, model.plan.n - 1);
                if (few) {
                    due("quick(" + a + ", " + b + ", " + i + ")", real.quick(a, b, i), model.quick(a, b, i));
                }
                break;
            case 20:
            case 21:
                if (few) {
                    due("slow(" + a + ", " + b + ")", real.slow(a, b), model.slow(a, b));
                }
                break;
            case 22:
            case 23:
                int in = below(3) == 0 ? near(0, 99) : near(0, 9);
                int j = near(-1, model.plan.n - 1);
                if (small) {
                    due("pennies(" + w + ", " + a + ", " + in + ", " + j + ")", real.pennies(w, a, in, j),
                        model.pennies(w, a, in, j));
                }
                break;
            case 24:
            case 25:
                int m = near(1, 99);
                due("shares(" + a + ", " + m + ", " + b + ")", real.shares(a, m, b), model.shares(a, m, b));
                break;
            case 26:
            case 27:
                due("settled(" + what + ")", real.settled(what), model.settled(what));
                break;
            case 28:
                int ago = near(1, 6);
                if (few) {
                    due("past(" + a + ", " + ago + ", " + what + ")", real.past(a, ago, what),
                        model.past(a, ago, what));
                }
                break;
            default:
                int which2 = near(0, 5);
                due("count(" + which2 + ")", real.count(which2), model.count(which2));
        }
    }

    /** A town with ways out of nearly all corners, told in as many texts as it needs. */
    void tellRich() {
        int n = 2 + below(7);
        int most = 1 + below(4);
        List<String> lines = new ArrayList<>();
        for (int c = 0; c < n; c++) {
            int ways = 1 + below(most);
            for (int w = 0; w < ways; w++) {
                lines.add("way " + c + " " + (w == 0 && below(3) > 0 ? (c + 1) % n : below(n)));
            }
            if (below(3) == 0) {
                lines.add(KINDS[below(8) == 0 ? 3 : below(3)] + " " + c);
            }
            if (below(3) == 0) {
                lines.add("vane " + c + " " + below(ways));
            }
        }
        int walkers = below(6);
        for (int w = 0; w < walkers; w++) {
            lines.add("walker " + below(n));
        }
        lines.add(0, "town " + n);
        for (int i = 0; i < lines.size(); i += 12) {
            tell(String.join(";", lines.subList(i, Math.min(i + 12, lines.size()))));
            due("town()", real.town(), model.town());
        }
    }

    void run() {
        rich = below(3) > 0;
        if (rich) {
            tellRich();
        }
        for (int i = 0; i < 3 && !rich; i++) {
            tellSome();
        }
        for (int i = 0; i < 300 && wrong == 0; i++) {
            callSome();
        }
    }

    public static void main(String[] args) {
        int runs = args.length > 0 ? Integer.parseInt(args[0]) : 1200;
        long first = args.length > 1 ? Long.parseLong(args[1]) : 1;
        int wrong = 0;
        for (int i = 0; i < runs && wrong < 3; i++) {
            ModelRuns r = new ModelRuns(first + i);
            r.run();
            wrong += r.wrong;
        }
        System.out.println(wrong == 0 ? "all answers are as the model's" : wrong + " answers are not as the model's");
        if (wrong != 0) {
            System.exit(1);
        }
    }
}
